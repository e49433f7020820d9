theorem inJ6 : ∀ w ∈ wsJ60, w ∈ lw_tbl := by decide +kernel
theorem inJ9 : ∀ w ∈ wsJ90, w ∈ lw_tbl := by decide +kernel
theorem dX0_init_0 : decode cX0_init 0 = .ok (.aload_n 0, 1) := by decide +kernel
theorem dX0_init_1 : decode cX0_init 1 = .ok (.invokespecial 3, 3) := by decide +kernel
theorem dX0_init_4 : decode cX0_init 4 = .ok (.aload_n 0, 1) := by decide +kernel
theorem dX0_init_5 : decode cX0_init 5 = .ok (.bipush 15, 2) := by decide +kernel
theorem dX0_init_7 : decode cX0_init 7 = .ok (.newarray .int, 2) := by decide +kernel
theorem dX0_init_9 : decode cX0_init 9 = .ok (.putfield 9, 3) := by decide +kernel
theorem dX0_init_12 : decode cX0_init 12 = .ok (.return_, 1) := by decide +kernel
set_option maxRecDepth 20000 in
theorem ggX0_add_X7_put : GoodIn wsX0_add wsX7_put := goodIn_r _ [6] (by decide +kernel) (by decide +kernel)
set_option maxRecDepth 20000 in
theorem gX0_add_X7_put : GoodIn wsX0_add (va_wsS RX0 19 yX7_put wsX7_put) := goodIn_app (goodIn_of _ (by decide +kernel)) ggX0_add_X7_put
theorem dX0_add_0 : decode cX0_add 0 = .ok (.aload_n 0, 1) := by decide +kernel
theorem dX0_add_1 : decode cX0_add 1 = .ok (.getfield 15, 3) := by decide +kernel
theorem dX0_add_4 : decode cX0_add 4 = .ok (.bipush 15, 2) := by decide +kernel
theorem dX0_add_6 : decode cX0_add 6 = .ok (.if_icmp .lt 5, 3) := by decide +kernel
theorem dX0_add_9 : decode cX0_add 9 = .ok (.iconst 0, 1) := by decide +kernel
theorem dX0_add_10 : decode cX0_add 10 = .ok (.ireturn, 1) := by decide +kernel
theorem dX0_add_11 : decode cX0_add 11 = .ok (.aload_n 0, 1) := by decide +kernel
theorem dX0_add_12 : decode cX0_add 12 = .ok (.getfield 9, 3) := by decide +kernel
theorem dX0_add_15 : decode cX0_add 15 = .ok (.aload_n 0, 1) := by decide +kernel
theorem dX0_add_16 : decode cX0_add 16 = .ok (.getfield 15, 3) := by decide +kernel
theorem dX0_add_19 : decode cX0_add 19 = .ok (.iload_n 1, 1) := by decide +kernel
theorem dX0_add_20 : decode cX0_add 20 = .ok (.invokestatic 19, 3) := by decide +kernel
theorem dX0_add_23 : decode cX0_add 23 = .ok (.aload_n 0, 1) := by decide +kernel
theorem dX0_add_24 : decode cX0_add 24 = .ok (.dup, 1) := by decide +kernel
theorem dX0_add_25 : decode cX0_add 25 = .ok (.getfield 15, 3) := by decide +kernel
theorem dX0_add_28 : decode cX0_add 28 = .ok (.iconst 1, 1) := by decide +kernel
theorem dX0_add_29 : decode cX0_add 29 = .ok (.iadd, 1) := by decide +kernel
theorem dX0_add_30 : decode cX0_add 30 = .ok (.putfield 15, 3) := by decide +kernel
theorem dX0_add_33 : decode cX0_add 33 = .ok (.iconst 1, 1) := by decide +kernel
theorem dX0_add_34 : decode cX0_add 34 = .ok (.ireturn, 1) := by decide +kernel
set_option maxRecDepth 20000 in
theorem ggX0_firstOtherThan_X7_get : GoodIn wsX0_firstOtherThan wsX7_get := goodIn_r _ [6] (by decide +kernel) (by decide +kernel)
set_option maxRecDepth 20000 in
theorem gX0_firstOtherThan_X7_get : GoodIn wsX0_firstOtherThan (va_wsS RX0 25 yX7_get wsX7_get) := goodIn_app (goodIn_of _ (by decide +kernel)) ggX0_firstOtherThan_X7_get
theorem dX0_firstOtherThan_0 : decode cX0_firstOtherThan 0 = .ok (.iconst 0, 1) := by decide +kernel
theorem dX0_firstOtherThan_1 : decode cX0_firstOtherThan 1 = .ok (.istore_n 2, 1) := by decide +kernel
theorem dX0_firstOtherThan_2 : decode cX0_firstOtherThan 2 = .ok (.iload_n 2, 1) := by decide +kernel
theorem dX0_firstOtherThan_3 : decode cX0_firstOtherThan 3 = .ok (.aload_n 0, 1) := by decide +kernel
theorem dX0_firstOtherThan_4 : decode cX0_firstOtherThan 4 = .ok (.getfield 15, 3) := by decide +kernel
theorem dX0_firstOtherThan_7 : decode cX0_firstOtherThan 7 = .ok (.if_icmp .ge 23, 3) := by decide +kernel
theorem dX0_firstOtherThan_10 : decode cX0_firstOtherThan 10 = .ok (.aload_n 0, 1) := by decide +kernel
theorem dX0_firstOtherThan_11 : decode cX0_firstOtherThan 11 = .ok (.getfield 9, 3) := by decide +kernel
theorem dX0_firstOtherThan_14 : decode cX0_firstOtherThan 14 = .ok (.iload_n 2, 1) := by decide +kernel
theorem dX0_firstOtherThan_15 : decode cX0_firstOtherThan 15 = .ok (.invokestatic 25, 3) := by decide +kernel
theorem dX0_firstOtherThan_18 : decode cX0_firstOtherThan 18 = .ok (.iload_n 1, 1) := by decide +kernel
theorem dX0_firstOtherThan_19 : decode cX0_firstOtherThan 19 = .ok (.if_icmp .eq 5, 3) := by decide +kernel
theorem dX0_firstOtherThan_22 : decode cX0_firstOtherThan 22 = .ok (.iload_n 2, 1) := by decide +kernel
theorem dX0_firstOtherThan_23 : decode cX0_firstOtherThan 23 = .ok (.ireturn, 1) := by decide +kernel
theorem dX0_firstOtherThan_24 : decode cX0_firstOtherThan 24 = .ok (.iinc 2 1, 3) := by decide +kernel
theorem dX0_firstOtherThan_27 : decode cX0_firstOtherThan 27 = .ok (.goto (-25), 3) := by decide +kernel
theorem dX0_firstOtherThan_30 : decode cX0_firstOtherThan 30 = .ok (.iconst (-1), 1) := by decide +kernel
theorem dX0_firstOtherThan_31 : decode cX0_firstOtherThan 31 = .ok (.ireturn, 1) := by decide +kernel
theorem dX1_init_0 : decode cX1_init 0 = .ok (.aload_n 0, 1) := by decide +kernel
theorem dX1_init_1 : decode cX1_init 1 = .ok (.invokespecial 3, 3) := by decide +kernel
theorem dX1_init_4 : decode cX1_init 4 = .ok (.aload_n 0, 1) := by decide +kernel
theorem dX1_init_5 : decode cX1_init 5 = .ok (.bipush 8, 2) := by decide +kernel
theorem dX1_init_7 : decode cX1_init 7 = .ok (.newarray .int, 2) := by decide +kernel
theorem dX1_init_9 : decode cX1_init 9 = .ok (.putfield 9, 3) := by decide +kernel
theorem dX1_init_12 : decode cX1_init 12 = .ok (.aload_n 0, 1) := by decide +kernel
theorem dX1_init_13 : decode cX1_init 13 = .ok (.bipush 8, 2) := by decide +kernel
theorem dX1_init_15 : decode cX1_init 15 = .ok (.newarray .int, 2) := by decide +kernel
theorem dX1_init_17 : decode cX1_init 17 = .ok (.putfield 15, 3) := by decide +kernel
theorem dX1_init_20 : decode cX1_init 20 = .ok (.aload_n 0, 1) := by decide +kernel
theorem dX1_init_21 : decode cX1_init 21 = .ok (.bipush 55, 2) := by decide +kernel
theorem dX1_init_23 : decode cX1_init 23 = .ok (.newarray .int, 2) := by decide +kernel
theorem dX1_init_25 : decode cX1_init 25 = .ok (.putfield 18, 3) := by decide +kernel
theorem dX1_init_28 : decode cX1_init 28 = .ok (.aload_n 0, 1) := by decide +kernel
theorem dX1_init_29 : decode cX1_init 29 = .ok (.bipush 12, 2) := by decide +kernel
theorem dX1_init_31 : decode cX1_init 31 = .ok (.newarray .int, 2) := by decide +kernel
theorem dX1_init_33 : decode cX1_init 33 = .ok (.putfield 21, 3) := by decide +kernel
theorem dX1_init_36 : decode cX1_init 36 = .ok (.aload_n 0, 1) := by decide +kernel
theorem dX1_init_37 : decode cX1_init 37 = .ok (.aload_n 1, 1) := by decide +kernel
theorem dX1_init_38 : decode cX1_init 38 = .ok (.putfield 24, 3) := by decide +kernel
theorem dX1_init_41 : decode cX1_init 41 = .ok (.aload_n 0, 1) := by decide +kernel
theorem dX1_init_42 : decode cX1_init 42 = .ok (.aload_n 2, 1) := by decide +kernel
theorem dX1_init_43 : decode cX1_init 43 = .ok (.putfield 28, 3) := by decide +kernel
theorem dX1_init_46 : decode cX1_init 46 = .ok (.return_, 1) := by decide +kernel
set_option maxRecDepth 20000 in
theorem ggX1_add_X7_put : GoodIn wsX1_add wsX7_put := goodIn_r _ [7] (by decide +kernel) (by decide +kernel)
set_option maxRecDepth 20000 in
theorem gX1_add_X7_put : GoodIn wsX1_add (va_wsS RX1 36 yX7_put wsX7_put) := goodIn_app (goodIn_of _ (by decide +kernel)) ggX1_add_X7_put
theorem dX1_add_0 : decode cX1_add 0 = .ok (.aload_n 0, 1) := by decide +kernel
theorem dX1_add_1 : decode cX1_add 1 = .ok (.getfield 32, 3) := by decide +kernel
theorem dX1_add_4 : decode cX1_add 4 = .ok (.bipush 8, 2) := by decide +kernel
theorem dX1_add_6 : decode cX1_add 6 = .ok (.if_icmp .lt 5, 3) := by decide +kernel
theorem dX1_add_9 : decode cX1_add 9 = .ok (.iconst 0, 1) := by decide +kernel
theorem dX1_add_10 : decode cX1_add 10 = .ok (.ireturn, 1) := by decide +kernel
theorem dX1_add_11 : decode cX1_add 11 = .ok (.aload_n 0, 1) := by decide +kernel
theorem dX1_add_12 : decode cX1_add 12 = .ok (.getfield 9, 3) := by decide +kernel
theorem dX1_add_15 : decode cX1_add 15 = .ok (.aload_n 0, 1) := by decide +kernel
theorem dX1_add_16 : decode cX1_add 16 = .ok (.getfield 32, 3) := by decide +kernel
theorem dX1_add_19 : decode cX1_add 19 = .ok (.iload_n 1, 1) := by decide +kernel
theorem dX1_add_20 : decode cX1_add 20 = .ok (.invokestatic 36, 3) := by decide +kernel
theorem dX1_add_23 : decode cX1_add 23 = .ok (.aload_n 0, 1) := by decide +kernel
theorem dX1_add_24 : decode cX1_add 24 = .ok (.getfield 15, 3) := by decide +kernel
theorem dX1_add_27 : decode cX1_add 27 = .ok (.aload_n 0, 1) := by decide +kernel
theorem dX1_add_28 : decode cX1_add 28 = .ok (.getfield 32, 3) := by decide +kernel
theorem dX1_add_31 : decode cX1_add 31 = .ok (.iload_n 2, 1) := by decide +kernel
theorem dX1_add_32 : decode cX1_add 32 = .ok (.invokestatic 36, 3) := by decide +kernel
theorem dX1_add_35 : decode cX1_add 35 = .ok (.aload_n 0, 1) := by decide +kernel
theorem dX1_add_36 : decode cX1_add 36 = .ok (.dup, 1) := by decide +kernel
theorem dX1_add_37 : decode cX1_add 37 = .ok (.getfield 32, 3) := by decide +kernel
theorem dX1_add_40 : decode cX1_add 40 = .ok (.iconst 1, 1) := by decide +kernel
theorem dX1_add_41 : decode cX1_add 41 = .ok (.iadd, 1) := by decide +kernel
theorem dX1_add_42 : decode cX1_add 42 = .ok (.putfield 32, 3) := by decide +kernel
theorem dX1_add_45 : decode cX1_add 45 = .ok (.iconst 1, 1) := by decide +kernel
theorem dX1_add_46 : decode cX1_add 46 = .ok (.ireturn, 1) := by decide +kernel
set_option maxRecDepth 20000 in
theorem ggX1_liarsOf_X1_soundOf : GoodIn wsX1_liarsOf wsX1_soundOf := goodIn_r _ [8] (by decide +kernel) (by decide +kernel)
set_option maxRecDepth 20000 in
theorem gX1_liarsOf_X1_soundOf : GoodIn wsX1_liarsOf (va_wsS RX1 42 yX1_soundOf wsX1_soundOf) := goodIn_app (goodIn_of _ (by decide +kernel)) ggX1_liarsOf_X1_soundOf
set_option maxRecDepth 20000 in
theorem ggX1_liarsOf_X7_get : GoodIn wsX1_liarsOf wsX7_get := goodIn_r _ [12] (by decide +kernel) (by decide +kernel)
set_option maxRecDepth 20000 in
theorem gX1_liarsOf_X7_get : GoodIn wsX1_liarsOf (va_wsS RX1 46 yX7_get wsX7_get) := goodIn_app (goodIn_of _ (by decide +kernel)) ggX1_liarsOf_X7_get
set_option maxRecDepth 20000 in
theorem ggX1_liarsOf_X2_saying : GoodIn wsX1_liarsOf wsX2_saying := goodIn_r _ [17, 18, 19, 20, 21, 22, 10, 11, 12, 23, 24, 25, 16, 26, 27, 28, 29, 30, 31, 32, 33, 34, 35, 36, 37, 38, 39, 40, 41, 50, 51, 52, 53, 54, 55, 56, 57, 58, 59, 60, 61, 62] (by decide +kernel) (by decide +kernel)
set_option maxRecDepth 20000 in
theorem gX1_liarsOf_X2_saying : GoodIn wsX1_liarsOf (wsV RX1 50 RX2 yX2_saying wsX2_saying) := goodIn_app (goodIn_of _ (by decide +kernel)) ggX1_liarsOf_X2_saying
theorem dX1_liarsOf_0 : decode cX1_liarsOf 0 = .ok (.iload_n 1, 1) := by decide +kernel
theorem dX1_liarsOf_1 : decode cX1_liarsOf 1 = .ok (.invokestatic 42, 3) := by decide +kernel
theorem dX1_liarsOf_4 : decode cX1_liarsOf 4 = .ok (.istore_n 2, 1) := by decide +kernel
theorem dX1_liarsOf_5 : decode cX1_liarsOf 5 = .ok (.iconst 0, 1) := by decide +kernel
theorem dX1_liarsOf_6 : decode cX1_liarsOf 6 = .ok (.istore_n 3, 1) := by decide +kernel
theorem dX1_liarsOf_7 : decode cX1_liarsOf 7 = .ok (.iconst 0, 1) := by decide +kernel
theorem dX1_liarsOf_8 : decode cX1_liarsOf 8 = .ok (.istore 4, 2) := by decide +kernel
theorem dX1_liarsOf_10 : decode cX1_liarsOf 10 = .ok (.iload 4, 2) := by decide +kernel
theorem dX1_liarsOf_12 : decode cX1_liarsOf 12 = .ok (.aload_n 0, 1) := by decide +kernel
theorem dX1_liarsOf_13 : decode cX1_liarsOf 13 = .ok (.getfield 32, 3) := by decide +kernel
theorem dX1_liarsOf_16 : decode cX1_liarsOf 16 = .ok (.if_icmp .ge 45, 3) := by decide +kernel
theorem dX1_liarsOf_19 : decode cX1_liarsOf 19 = .ok (.aload_n 0, 1) := by decide +kernel
theorem dX1_liarsOf_20 : decode cX1_liarsOf 20 = .ok (.getfield 28, 3) := by decide +kernel
theorem dX1_liarsOf_23 : decode cX1_liarsOf 23 = .ok (.aload_n 0, 1) := by decide +kernel
theorem dX1_liarsOf_24 : decode cX1_liarsOf 24 = .ok (.getfield 9, 3) := by decide +kernel
theorem dX1_liarsOf_27 : decode cX1_liarsOf 27 = .ok (.iload 4, 2) := by decide +kernel
theorem dX1_liarsOf_29 : decode cX1_liarsOf 29 = .ok (.invokestatic 46, 3) := by decide +kernel
theorem dX1_liarsOf_32 : decode cX1_liarsOf 32 = .ok (.iload_n 2, 1) := by decide +kernel
theorem dX1_liarsOf_33 : decode cX1_liarsOf 33 = .ok (.iload_n 1, 1) := by decide +kernel
theorem dX1_liarsOf_34 : decode cX1_liarsOf 34 = .ok (.bipush 10, 2) := by decide +kernel
theorem dX1_liarsOf_36 : decode cX1_liarsOf 36 = .ok (.irem, 1) := by decide +kernel
theorem dX1_liarsOf_37 : decode cX1_liarsOf 37 = .ok (.invokevirtual 50, 3) := by decide +kernel
theorem dX1_liarsOf_40 : decode cX1_liarsOf 40 = .ok (.aload_n 0, 1) := by decide +kernel
theorem dX1_liarsOf_41 : decode cX1_liarsOf 41 = .ok (.getfield 15, 3) := by decide +kernel
theorem dX1_liarsOf_44 : decode cX1_liarsOf 44 = .ok (.iload 4, 2) := by decide +kernel
theorem dX1_liarsOf_46 : decode cX1_liarsOf 46 = .ok (.invokestatic 46, 3) := by decide +kernel
theorem dX1_liarsOf_49 : decode cX1_liarsOf 49 = .ok (.if_icmp .eq 6, 3) := by decide +kernel
theorem dX1_liarsOf_52 : decode cX1_liarsOf 52 = .ok (.iinc 3 1, 3) := by decide +kernel
theorem dX1_liarsOf_55 : decode cX1_liarsOf 55 = .ok (.iinc 4 1, 3) := by decide +kernel
theorem dX1_liarsOf_58 : decode cX1_liarsOf 58 = .ok (.goto (-48), 3) := by decide +kernel
theorem dX1_liarsOf_61 : decode cX1_liarsOf 61 = .ok (.iload_n 3, 1) := by decide +kernel
theorem dX1_liarsOf_62 : decode cX1_liarsOf 62 = .ok (.ireturn, 1) := by decide +kernel
set_option maxRecDepth 20000 in
theorem ggX1_gatherBirths_X1_pairs : GoodIn wsX1_gatherBirths wsX1_pairs := goodIn_r _ [7, 8, 9, 10, 11, 12, 13, 14, 15, 67, 68, 69, 70, 71, 72, 73, 74, 75, 76, 77, 78, 79, 80, 81, 82, 83, 84] (by decide +kernel) (by decide +kernel)
set_option maxRecDepth 20000 in
theorem gX1_gatherBirths_X1_pairs : GoodIn wsX1_gatherBirths (wsV RX1 59 RX1 yX1_pairs wsX1_pairs) := goodIn_app (goodIn_of _ (by decide +kernel)) ggX1_gatherBirths_X1_pairs
set_option maxRecDepth 20000 in
theorem ggX1_gatherBirths_X1_pairAt : GoodIn wsX1_gatherBirths wsX1_pairAt := goodIn_r _ [19, 8, 9, 10, 11, 12, 13, 14, 15, 67, 68, 69, 70, 71, 72, 73, 74, 75, 76, 77, 78, 79, 80, 81, 82, 83, 84] (by decide +kernel) (by decide +kernel)
set_option maxRecDepth 20000 in
theorem gX1_gatherBirths_X1_pairAt : GoodIn wsX1_gatherBirths (wsV RX1 63 RX1 yX1_pairAt wsX1_pairAt) := goodIn_app (goodIn_of _ (by decide +kernel)) ggX1_gatherBirths_X1_pairAt
set_option maxRecDepth 20000 in
theorem ggX1_gatherBirths_X1_liarsOf : GoodIn wsX1_gatherBirths wsX1_liarsOf := goodIn_r _ [23, 24, 25, 26, 27, 28, 29, 6, 30, 31, 32, 33, 34, 35, 36, 37, 38, 39, 40, 41, 42, 43, 44, 45, 46, 47, 48, 49, 50, 51, 52, 53, 54, 55, 56, 57, 58, 59, 60, 61, 62, 63, 67, 68, 69, 70, 71, 72, 73, 74, 85, 86, 75, 76, 77, 78, 79, 80, 81, 82, 83, 84, 87] (by decide +kernel) (by decide +kernel)
set_option maxRecDepth 20000 in
theorem gX1_gatherBirths_X1_liarsOf : GoodIn wsX1_gatherBirths (wsV RX1 66 RX1 yX1_liarsOf wsX1_liarsOf) := goodIn_app (goodIn_of _ (by decide +kernel)) ggX1_gatherBirths_X1_liarsOf
set_option maxRecDepth 20000 in
theorem ggX1_gatherBirths_X7_put : GoodIn wsX1_gatherBirths wsX7_put := goodIn_r _ [66] (by decide +kernel) (by decide +kernel)
set_option maxRecDepth 20000 in
theorem gX1_gatherBirths_X7_put : GoodIn wsX1_gatherBirths (va_wsS RX1 36 yX7_put wsX7_put) := goodIn_app (goodIn_of _ (by decide +kernel)) ggX1_gatherBirths_X7_put
theorem dX1_gatherBirths_0 : decode cX1_gatherBirths 0 = .ok (.aload_n 0, 1) := by decide +kernel
theorem dX1_gatherBirths_1 : decode cX1_gatherBirths 1 = .ok (.iconst 0, 1) := by decide +kernel
theorem dX1_gatherBirths_2 : decode cX1_gatherBirths 2 = .ok (.putfield 56, 3) := by decide +kernel
theorem dX1_gatherBirths_5 : decode cX1_gatherBirths 5 = .ok (.iconst 0, 1) := by decide +kernel
theorem dX1_gatherBirths_6 : decode cX1_gatherBirths 6 = .ok (.istore_n 1, 1) := by decide +kernel
theorem dX1_gatherBirths_7 : decode cX1_gatherBirths 7 = .ok (.iload_n 1, 1) := by decide +kernel
theorem dX1_gatherBirths_8 : decode cX1_gatherBirths 8 = .ok (.aload_n 0, 1) := by decide +kernel
theorem dX1_gatherBirths_9 : decode cX1_gatherBirths 9 = .ok (.invokevirtual 59, 3) := by decide +kernel
theorem dX1_gatherBirths_12 : decode cX1_gatherBirths 12 = .ok (.if_icmp .ge 45, 3) := by decide +kernel
theorem dX1_gatherBirths_15 : decode cX1_gatherBirths 15 = .ok (.aload_n 0, 1) := by decide +kernel
theorem dX1_gatherBirths_16 : decode cX1_gatherBirths 16 = .ok (.iload_n 1, 1) := by decide +kernel
theorem dX1_gatherBirths_17 : decode cX1_gatherBirths 17 = .ok (.invokevirtual 63, 3) := by decide +kernel
theorem dX1_gatherBirths_20 : decode cX1_gatherBirths 20 = .ok (.istore_n 2, 1) := by decide +kernel
theorem dX1_gatherBirths_21 : decode cX1_gatherBirths 21 = .ok (.aload_n 0, 1) := by decide +kernel
theorem dX1_gatherBirths_22 : decode cX1_gatherBirths 22 = .ok (.iload_n 2, 1) := by decide +kernel
theorem dX1_gatherBirths_23 : decode cX1_gatherBirths 23 = .ok (.invokevirtual 66, 3) := by decide +kernel
theorem dX1_gatherBirths_26 : decode cX1_gatherBirths 26 = .ok (.ifCond .ne 25, 3) := by decide +kernel
theorem dX1_gatherBirths_29 : decode cX1_gatherBirths 29 = .ok (.aload_n 0, 1) := by decide +kernel
theorem dX1_gatherBirths_30 : decode cX1_gatherBirths 30 = .ok (.getfield 18, 3) := by decide +kernel
theorem dX1_gatherBirths_33 : decode cX1_gatherBirths 33 = .ok (.aload_n 0, 1) := by decide +kernel
theorem dX1_gatherBirths_34 : decode cX1_gatherBirths 34 = .ok (.getfield 56, 3) := by decide +kernel
theorem dX1_gatherBirths_37 : decode cX1_gatherBirths 37 = .ok (.iload_n 2, 1) := by decide +kernel
theorem dX1_gatherBirths_38 : decode cX1_gatherBirths 38 = .ok (.invokestatic 36, 3) := by decide +kernel
theorem dX1_gatherBirths_41 : decode cX1_gatherBirths 41 = .ok (.aload_n 0, 1) := by decide +kernel
theorem dX1_gatherBirths_42 : decode cX1_gatherBirths 42 = .ok (.dup, 1) := by decide +kernel
theorem dX1_gatherBirths_43 : decode cX1_gatherBirths 43 = .ok (.getfield 56, 3) := by decide +kernel
theorem dX1_gatherBirths_46 : decode cX1_gatherBirths 46 = .ok (.iconst 1, 1) := by decide +kernel
theorem dX1_gatherBirths_47 : decode cX1_gatherBirths 47 = .ok (.iadd, 1) := by decide +kernel
theorem dX1_gatherBirths_48 : decode cX1_gatherBirths 48 = .ok (.putfield 56, 3) := by decide +kernel
theorem dX1_gatherBirths_51 : decode cX1_gatherBirths 51 = .ok (.iinc 1 1, 3) := by decide +kernel
theorem dX1_gatherBirths_54 : decode cX1_gatherBirths 54 = .ok (.goto (-47), 3) := by decide +kernel
theorem dX1_gatherBirths_57 : decode cX1_gatherBirths 57 = .ok (.return_, 1) := by decide +kernel
set_option maxRecDepth 20000 in
theorem ggX1_birthAt_X7_get : GoodIn wsX1_birthAt wsX7_get := goodIn_r _ [6] (by decide +kernel) (by decide +kernel)
set_option maxRecDepth 20000 in
theorem gX1_birthAt_X7_get : GoodIn wsX1_birthAt (va_wsS RX1 46 yX7_get wsX7_get) := goodIn_app (goodIn_of _ (by decide +kernel)) ggX1_birthAt_X7_get
theorem dX1_birthAt_0 : decode cX1_birthAt 0 = .ok (.iload_n 1, 1) := by decide +kernel
theorem dX1_birthAt_1 : decode cX1_birthAt 1 = .ok (.ifCond .lt 22, 3) := by decide +kernel
theorem dX1_birthAt_4 : decode cX1_birthAt 4 = .ok (.iload_n 1, 1) := by decide +kernel
theorem dX1_birthAt_5 : decode cX1_birthAt 5 = .ok (.aload_n 0, 1) := by decide +kernel
theorem dX1_birthAt_6 : decode cX1_birthAt 6 = .ok (.getfield 56, 3) := by decide +kernel
theorem dX1_birthAt_9 : decode cX1_birthAt 9 = .ok (.if_icmp .ge 14, 3) := by decide +kernel
theorem dX1_birthAt_12 : decode cX1_birthAt 12 = .ok (.aload_n 0, 1) := by decide +kernel
theorem dX1_birthAt_13 : decode cX1_birthAt 13 = .ok (.getfield 18, 3) := by decide +kernel
theorem dX1_birthAt_16 : decode cX1_birthAt 16 = .ok (.iload_n 1, 1) := by decide +kernel
theorem dX1_birthAt_17 : decode cX1_birthAt 17 = .ok (.invokestatic 46, 3) := by decide +kernel
theorem dX1_birthAt_20 : decode cX1_birthAt 20 = .ok (.goto 4, 3) := by decide +kernel
theorem dX1_birthAt_23 : decode cX1_birthAt 23 = .ok (.iconst (-1), 1) := by decide +kernel
theorem dX1_birthAt_24 : decode cX1_birthAt 24 = .ok (.ireturn, 1) := by decide +kernel
set_option maxRecDepth 20000 in
theorem ggX1_pairOfFewestLiars_X1_pairAt : GoodIn wsX1_pairOfFewestLiars wsX1_pairAt := goodIn_r _ [5, 6, 7, 8, 9, 10, 11, 12, 13, 62, 63, 64, 65, 66, 67, 68, 69, 70, 71, 72, 73, 74, 75, 76, 77, 78, 79] (by decide +kernel) (by decide +kernel)
set_option maxRecDepth 20000 in
theorem gX1_pairOfFewestLiars_X1_pairAt : GoodIn wsX1_pairOfFewestLiars (wsV RX1 63 RX1 yX1_pairAt wsX1_pairAt) := goodIn_app (goodIn_of _ (by decide +kernel)) ggX1_pairOfFewestLiars_X1_pairAt
set_option maxRecDepth 20000 in
theorem ggX1_pairOfFewestLiars_X1_liarsOf : GoodIn wsX1_pairOfFewestLiars wsX1_liarsOf := goodIn_r _ [17, 18, 19, 20, 21, 22, 23, 4, 24, 25, 26, 27, 28, 29, 30, 31, 32, 33, 34, 35, 36, 37, 38, 39, 40, 41, 42, 43, 44, 45, 46, 47, 48, 49, 50, 51, 52, 53, 54, 55, 56, 57, 62, 63, 64, 65, 66, 67, 68, 69, 80, 81, 70, 71, 72, 73, 74, 75, 76, 77, 78, 79, 82] (by decide +kernel) (by decide +kernel)
set_option maxRecDepth 20000 in
theorem gX1_pairOfFewestLiars_X1_liarsOf : GoodIn wsX1_pairOfFewestLiars (wsV RX1 66 RX1 yX1_liarsOf wsX1_liarsOf) := goodIn_app (goodIn_of _ (by decide +kernel)) ggX1_pairOfFewestLiars_X1_liarsOf
set_option maxRecDepth 20000 in
theorem ggX1_pairOfFewestLiars_X1_pairs : GoodIn wsX1_pairOfFewestLiars wsX1_pairs := goodIn_r _ [61, 6, 7, 8, 9, 10, 11, 12, 13, 62, 63, 64, 65, 66, 67, 68, 69, 70, 71, 72, 73, 74, 75, 76, 77, 78, 79] (by decide +kernel) (by decide +kernel)
set_option maxRecDepth 20000 in
theorem gX1_pairOfFewestLiars_X1_pairs : GoodIn wsX1_pairOfFewestLiars (wsV RX1 59 RX1 yX1_pairs wsX1_pairs) := goodIn_app (goodIn_of _ (by decide +kernel)) ggX1_pairOfFewestLiars_X1_pairs
theorem dX1_pairOfFewestLiars_0 : decode cX1_pairOfFewestLiars 0 = .ok (.aload_n 0, 1) := by decide +kernel
theorem dX1_pairOfFewestLiars_1 : decode cX1_pairOfFewestLiars 1 = .ok (.iconst 0, 1) := by decide +kernel
theorem dX1_pairOfFewestLiars_2 : decode cX1_pairOfFewestLiars 2 = .ok (.invokevirtual 63, 3) := by decide +kernel
theorem dX1_pairOfFewestLiars_5 : decode cX1_pairOfFewestLiars 5 = .ok (.istore_n 1, 1) := by decide +kernel
theorem dX1_pairOfFewestLiars_6 : decode cX1_pairOfFewestLiars 6 = .ok (.aload_n 0, 1) := by decide +kernel
theorem dX1_pairOfFewestLiars_7 : decode cX1_pairOfFewestLiars 7 = .ok (.iload_n 1, 1) := by decide +kernel
theorem dX1_pairOfFewestLiars_8 : decode cX1_pairOfFewestLiars 8 = .ok (.invokevirtual 66, 3) := by decide +kernel
theorem dX1_pairOfFewestLiars_11 : decode cX1_pairOfFewestLiars 11 = .ok (.istore_n 2, 1) := by decide +kernel
theorem dX1_pairOfFewestLiars_12 : decode cX1_pairOfFewestLiars 12 = .ok (.iconst 1, 1) := by decide +kernel
theorem dX1_pairOfFewestLiars_13 : decode cX1_pairOfFewestLiars 13 = .ok (.istore_n 3, 1) := by decide +kernel
theorem dX1_pairOfFewestLiars_14 : decode cX1_pairOfFewestLiars 14 = .ok (.iload_n 3, 1) := by decide +kernel
theorem dX1_pairOfFewestLiars_15 : decode cX1_pairOfFewestLiars 15 = .ok (.aload_n 0, 1) := by decide +kernel
theorem dX1_pairOfFewestLiars_16 : decode cX1_pairOfFewestLiars 16 = .ok (.invokevirtual 59, 3) := by decide +kernel
theorem dX1_pairOfFewestLiars_19 : decode cX1_pairOfFewestLiars 19 = .ok (.if_icmp .ge 35, 3) := by decide +kernel
theorem dX1_pairOfFewestLiars_22 : decode cX1_pairOfFewestLiars 22 = .ok (.aload_n 0, 1) := by decide +kernel
theorem dX1_pairOfFewestLiars_23 : decode cX1_pairOfFewestLiars 23 = .ok (.aload_n 0, 1) := by decide +kernel
theorem dX1_pairOfFewestLiars_24 : decode cX1_pairOfFewestLiars 24 = .ok (.iload_n 3, 1) := by decide +kernel
theorem dX1_pairOfFewestLiars_25 : decode cX1_pairOfFewestLiars 25 = .ok (.invokevirtual 63, 3) := by decide +kernel
theorem dX1_pairOfFewestLiars_28 : decode cX1_pairOfFewestLiars 28 = .ok (.invokevirtual 66, 3) := by decide +kernel
theorem dX1_pairOfFewestLiars_31 : decode cX1_pairOfFewestLiars 31 = .ok (.istore 4, 2) := by decide +kernel
theorem dX1_pairOfFewestLiars_33 : decode cX1_pairOfFewestLiars 33 = .ok (.iload 4, 2) := by decide +kernel
theorem dX1_pairOfFewestLiars_35 : decode cX1_pairOfFewestLiars 35 = .ok (.iload_n 2, 1) := by decide +kernel
theorem dX1_pairOfFewestLiars_36 : decode cX1_pairOfFewestLiars 36 = .ok (.if_icmp .ge 12, 3) := by decide +kernel
theorem dX1_pairOfFewestLiars_39 : decode cX1_pairOfFewestLiars 39 = .ok (.aload_n 0, 1) := by decide +kernel
theorem dX1_pairOfFewestLiars_40 : decode cX1_pairOfFewestLiars 40 = .ok (.iload_n 3, 1) := by decide +kernel
theorem dX1_pairOfFewestLiars_41 : decode cX1_pairOfFewestLiars 41 = .ok (.invokevirtual 63, 3) := by decide +kernel
theorem dX1_pairOfFewestLiars_44 : decode cX1_pairOfFewestLiars 44 = .ok (.istore_n 1, 1) := by decide +kernel
theorem dX1_pairOfFewestLiars_45 : decode cX1_pairOfFewestLiars 45 = .ok (.iload 4, 2) := by decide +kernel
theorem dX1_pairOfFewestLiars_47 : decode cX1_pairOfFewestLiars 47 = .ok (.istore_n 2, 1) := by decide +kernel
theorem dX1_pairOfFewestLiars_48 : decode cX1_pairOfFewestLiars 48 = .ok (.iinc 3 1, 3) := by decide +kernel
theorem dX1_pairOfFewestLiars_51 : decode cX1_pairOfFewestLiars 51 = .ok (.goto (-37), 3) := by decide +kernel
theorem dX1_pairOfFewestLiars_54 : decode cX1_pairOfFewestLiars 54 = .ok (.iload_n 1, 1) := by decide +kernel
theorem dX1_pairOfFewestLiars_55 : decode cX1_pairOfFewestLiars 55 = .ok (.ireturn, 1) := by decide +kernel
set_option maxRecDepth 20000 in
theorem ggX1_bestAsked_X1_greatestPart : GoodIn wsX1_bestAsked wsX1_greatestPart := goodIn_r _ [8, 9, 1, 10, 11, 12, 13, 14, 15, 16, 17, 18, 19, 20, 21, 22, 23, 24, 7, 25, 26, 27, 28, 29, 30, 31, 32, 33, 34, 35, 36, 37, 38, 39, 40, 41, 42, 43, 44, 45, 46, 47, 48, 49, 50, 51, 52, 53, 54, 55, 56, 57, 58, 59, 70, 71, 60, 61, 62, 63, 64, 65, 66, 67, 68, 69, 72] (by decide +kernel) (by decide +kernel)
set_option maxRecDepth 20000 in
theorem gX1_bestAsked_X1_greatestPart : GoodIn wsX1_bestAsked (wsV RX1 74 RX1 yX1_greatestPart wsX1_greatestPart) := goodIn_app (goodIn_of _ (by decide +kernel)) ggX1_bestAsked_X1_greatestPart
theorem dX1_bestAsked_0 : decode cX1_bestAsked 0 = .ok (.iconst (-1), 1) := by decide +kernel
theorem dX1_bestAsked_1 : decode cX1_bestAsked 1 = .ok (.istore_n 1, 1) := by decide +kernel
theorem dX1_bestAsked_2 : decode cX1_bestAsked 2 = .ok (.aload_n 0, 1) := by decide +kernel
theorem dX1_bestAsked_3 : decode cX1_bestAsked 3 = .ok (.getfield 56, 3) := by decide +kernel
theorem dX1_bestAsked_6 : decode cX1_bestAsked 6 = .ok (.istore_n 2, 1) := by decide +kernel
theorem dX1_bestAsked_7 : decode cX1_bestAsked 7 = .ok (.iconst 0, 1) := by decide +kernel
theorem dX1_bestAsked_8 : decode cX1_bestAsked 8 = .ok (.istore_n 3, 1) := by decide +kernel
theorem dX1_bestAsked_9 : decode cX1_bestAsked 9 = .ok (.iload_n 3, 1) := by decide +kernel
theorem dX1_bestAsked_10 : decode cX1_bestAsked 10 = .ok (.aload_n 0, 1) := by decide +kernel
theorem dX1_bestAsked_11 : decode cX1_bestAsked 11 = .ok (.getfield 24, 3) := by decide +kernel
theorem dX1_bestAsked_14 : decode cX1_bestAsked 14 = .ok (.getfield 69, 3) := by decide +kernel
theorem dX1_bestAsked_17 : decode cX1_bestAsked 17 = .ok (.if_icmp .ge 27, 3) := by decide +kernel
theorem dX1_bestAsked_20 : decode cX1_bestAsked 20 = .ok (.aload_n 0, 1) := by decide +kernel
theorem dX1_bestAsked_21 : decode cX1_bestAsked 21 = .ok (.iload_n 3, 1) := by decide +kernel
theorem dX1_bestAsked_22 : decode cX1_bestAsked 22 = .ok (.invokevirtual 74, 3) := by decide +kernel
theorem dX1_bestAsked_25 : decode cX1_bestAsked 25 = .ok (.istore 4, 2) := by decide +kernel
theorem dX1_bestAsked_27 : decode cX1_bestAsked 27 = .ok (.iload 4, 2) := by decide +kernel
theorem dX1_bestAsked_29 : decode cX1_bestAsked 29 = .ok (.iload_n 2, 1) := by decide +kernel
theorem dX1_bestAsked_30 : decode cX1_bestAsked 30 = .ok (.if_icmp .ge 8, 3) := by decide +kernel
theorem dX1_bestAsked_33 : decode cX1_bestAsked 33 = .ok (.iload_n 3, 1) := by decide +kernel
theorem dX1_bestAsked_34 : decode cX1_bestAsked 34 = .ok (.istore_n 1, 1) := by decide +kernel
theorem dX1_bestAsked_35 : decode cX1_bestAsked 35 = .ok (.iload 4, 2) := by decide +kernel
theorem dX1_bestAsked_37 : decode cX1_bestAsked 37 = .ok (.istore_n 2, 1) := by decide +kernel
theorem dX1_bestAsked_38 : decode cX1_bestAsked 38 = .ok (.iinc 3 1, 3) := by decide +kernel
theorem dX1_bestAsked_41 : decode cX1_bestAsked 41 = .ok (.goto (-32), 3) := by decide +kernel
theorem dX1_bestAsked_44 : decode cX1_bestAsked 44 = .ok (.iload_n 1, 1) := by decide +kernel
theorem dX1_bestAsked_45 : decode cX1_bestAsked 45 = .ok (.ireturn, 1) := by decide +kernel
set_option maxRecDepth 20000 in
theorem ggX1_greatestPart_X7_put : GoodIn wsX1_greatestPart wsX7_put := goodIn_r _ [12] (by decide +kernel) (by decide +kernel)
set_option maxRecDepth 20000 in
theorem gX1_greatestPart_X7_put : GoodIn wsX1_greatestPart (va_wsS RX1 36 yX7_put wsX7_put) := goodIn_app (goodIn_of _ (by decide +kernel)) ggX1_greatestPart_X7_put
set_option maxRecDepth 20000 in
theorem ggX1_greatestPart_X7_get : GoodIn wsX1_greatestPart wsX7_get := goodIn_r _ [15] (by decide +kernel) (by decide +kernel)
set_option maxRecDepth 20000 in
theorem gX1_greatestPart_X7_get : GoodIn wsX1_greatestPart (va_wsS RX1 46 yX7_get wsX7_get) := goodIn_app (goodIn_of _ (by decide +kernel)) ggX1_greatestPart_X7_get
set_option maxRecDepth 20000 in
theorem ggX1_greatestPart_X1_soundOf : GoodIn wsX1_greatestPart wsX1_soundOf := goodIn_r _ [19] (by decide +kernel) (by decide +kernel)
set_option maxRecDepth 20000 in
theorem gX1_greatestPart_X1_soundOf : GoodIn wsX1_greatestPart (va_wsS RX1 42 yX1_soundOf wsX1_soundOf) := goodIn_app (goodIn_of _ (by decide +kernel)) ggX1_greatestPart_X1_soundOf
set_option maxRecDepth 20000 in
theorem ggX1_greatestPart_X2_saying : GoodIn wsX1_greatestPart wsX2_saying := goodIn_r _ [24, 25, 26, 27, 28, 29, 14, 11, 15, 30, 31, 32, 23, 33, 34, 35, 36, 37, 38, 39, 40, 41, 42, 7, 43, 44, 6, 8, 45, 54, 55, 56, 57, 58, 59, 60, 61, 62, 63, 64, 65, 66] (by decide +kernel) (by decide +kernel)
set_option maxRecDepth 20000 in
theorem gX1_greatestPart_X2_saying : GoodIn wsX1_greatestPart (wsV RX1 50 RX2 yX2_saying wsX2_saying) := goodIn_app (goodIn_of _ (by decide +kernel)) ggX1_greatestPart_X2_saying
theorem dX1_greatestPart_0 : decode cX1_greatestPart 0 = .ok (.iconst 0, 1) := by decide +kernel
theorem dX1_greatestPart_1 : decode cX1_greatestPart 1 = .ok (.istore_n 2, 1) := by decide +kernel
theorem dX1_greatestPart_2 : decode cX1_greatestPart 2 = .ok (.iconst 0, 1) := by decide +kernel
theorem dX1_greatestPart_3 : decode cX1_greatestPart 3 = .ok (.istore_n 3, 1) := by decide +kernel
theorem dX1_greatestPart_4 : decode cX1_greatestPart 4 = .ok (.iload_n 3, 1) := by decide +kernel
theorem dX1_greatestPart_5 : decode cX1_greatestPart 5 = .ok (.aload_n 0, 1) := by decide +kernel
theorem dX1_greatestPart_6 : decode cX1_greatestPart 6 = .ok (.getfield 21, 3) := by decide +kernel
theorem dX1_greatestPart_9 : decode cX1_greatestPart 9 = .ok (.arraylength, 1) := by decide +kernel
theorem dX1_greatestPart_10 : decode cX1_greatestPart 10 = .ok (.if_icmp .ge 18, 3) := by decide +kernel
theorem dX1_greatestPart_13 : decode cX1_greatestPart 13 = .ok (.aload_n 0, 1) := by decide +kernel
theorem dX1_greatestPart_14 : decode cX1_greatestPart 14 = .ok (.getfield 21, 3) := by decide +kernel
theorem dX1_greatestPart_17 : decode cX1_greatestPart 17 = .ok (.iload_n 3, 1) := by decide +kernel
theorem dX1_greatestPart_18 : decode cX1_greatestPart 18 = .ok (.iconst 0, 1) := by decide +kernel
theorem dX1_greatestPart_19 : decode cX1_greatestPart 19 = .ok (.invokestatic 36, 3) := by decide +kernel
theorem dX1_greatestPart_22 : decode cX1_greatestPart 22 = .ok (.iinc 3 1, 3) := by decide +kernel
theorem dX1_greatestPart_25 : decode cX1_greatestPart 25 = .ok (.goto (-21), 3) := by decide +kernel
theorem dX1_greatestPart_28 : decode cX1_greatestPart 28 = .ok (.iconst 0, 1) := by decide +kernel
theorem dX1_greatestPart_29 : decode cX1_greatestPart 29 = .ok (.istore_n 3, 1) := by decide +kernel
theorem dX1_greatestPart_30 : decode cX1_greatestPart 30 = .ok (.iload_n 3, 1) := by decide +kernel
theorem dX1_greatestPart_31 : decode cX1_greatestPart 31 = .ok (.aload_n 0, 1) := by decide +kernel
theorem dX1_greatestPart_32 : decode cX1_greatestPart 32 = .ok (.getfield 56, 3) := by decide +kernel
theorem dX1_greatestPart_35 : decode cX1_greatestPart 35 = .ok (.if_icmp .ge 70, 3) := by decide +kernel
theorem dX1_greatestPart_38 : decode cX1_greatestPart 38 = .ok (.aload_n 0, 1) := by decide +kernel
theorem dX1_greatestPart_39 : decode cX1_greatestPart 39 = .ok (.getfield 18, 3) := by decide +kernel
theorem dX1_greatestPart_42 : decode cX1_greatestPart 42 = .ok (.iload_n 3, 1) := by decide +kernel
theorem dX1_greatestPart_43 : decode cX1_greatestPart 43 = .ok (.invokestatic 46, 3) := by decide +kernel
theorem dX1_greatestPart_46 : decode cX1_greatestPart 46 = .ok (.istore 4, 2) := by decide +kernel
theorem dX1_greatestPart_48 : decode cX1_greatestPart 48 = .ok (.aload_n 0, 1) := by decide +kernel
theorem dX1_greatestPart_49 : decode cX1_greatestPart 49 = .ok (.getfield 28, 3) := by decide +kernel
theorem dX1_greatestPart_52 : decode cX1_greatestPart 52 = .ok (.iload_n 1, 1) := by decide +kernel
theorem dX1_greatestPart_53 : decode cX1_greatestPart 53 = .ok (.iload 4, 2) := by decide +kernel
theorem dX1_greatestPart_55 : decode cX1_greatestPart 55 = .ok (.invokestatic 42, 3) := by decide +kernel
theorem dX1_greatestPart_58 : decode cX1_greatestPart 58 = .ok (.iload 4, 2) := by decide +kernel
theorem dX1_greatestPart_60 : decode cX1_greatestPart 60 = .ok (.bipush 10, 2) := by decide +kernel
theorem dX1_greatestPart_62 : decode cX1_greatestPart 62 = .ok (.irem, 1) := by decide +kernel
theorem dX1_greatestPart_63 : decode cX1_greatestPart 63 = .ok (.invokevirtual 50, 3) := by decide +kernel
theorem dX1_greatestPart_66 : decode cX1_greatestPart 66 = .ok (.istore 5, 2) := by decide +kernel
theorem dX1_greatestPart_68 : decode cX1_greatestPart 68 = .ok (.aload_n 0, 1) := by decide +kernel
theorem dX1_greatestPart_69 : decode cX1_greatestPart 69 = .ok (.getfield 21, 3) := by decide +kernel
theorem dX1_greatestPart_72 : decode cX1_greatestPart 72 = .ok (.iload 5, 2) := by decide +kernel
theorem dX1_greatestPart_74 : decode cX1_greatestPart 74 = .ok (.invokestatic 46, 3) := by decide +kernel
theorem dX1_greatestPart_77 : decode cX1_greatestPart 77 = .ok (.iconst 1, 1) := by decide +kernel
theorem dX1_greatestPart_78 : decode cX1_greatestPart 78 = .ok (.iadd, 1) := by decide +kernel
theorem dX1_greatestPart_79 : decode cX1_greatestPart 79 = .ok (.istore 6, 2) := by decide +kernel
theorem dX1_greatestPart_81 : decode cX1_greatestPart 81 = .ok (.aload_n 0, 1) := by decide +kernel
theorem dX1_greatestPart_82 : decode cX1_greatestPart 82 = .ok (.getfield 21, 3) := by decide +kernel
theorem dX1_greatestPart_85 : decode cX1_greatestPart 85 = .ok (.iload 5, 2) := by decide +kernel
theorem dX1_greatestPart_87 : decode cX1_greatestPart 87 = .ok (.iload 6, 2) := by decide +kernel
theorem dX1_greatestPart_89 : decode cX1_greatestPart 89 = .ok (.invokestatic 36, 3) := by decide +kernel
theorem dX1_greatestPart_92 : decode cX1_greatestPart 92 = .ok (.iload_n 2, 1) := by decide +kernel
theorem dX1_greatestPart_93 : decode cX1_greatestPart 93 = .ok (.iload 6, 2) := by decide +kernel
theorem dX1_greatestPart_95 : decode cX1_greatestPart 95 = .ok (.invokestatic 77, 3) := by decide +kernel
theorem dX1_greatestPart_98 : decode cX1_greatestPart 98 = .ok (.istore_n 2, 1) := by decide +kernel
theorem dX1_greatestPart_99 : decode cX1_greatestPart 99 = .ok (.iinc 3 1, 3) := by decide +kernel
theorem dX1_greatestPart_102 : decode cX1_greatestPart 102 = .ok (.goto (-72), 3) := by decide +kernel
theorem dX1_greatestPart_105 : decode cX1_greatestPart 105 = .ok (.iload_n 2, 1) := by decide +kernel
theorem dX1_greatestPart_106 : decode cX1_greatestPart 106 = .ok (.ireturn, 1) := by decide +kernel
set_option maxRecDepth 20000 in
theorem ggX1_pairs_X5_places : GoodIn wsX1_pairs wsX5_places := goodIn_r _ [7, 8, 17, 18, 19, 20, 21, 22, 23, 24, 25, 26] (by decide +kernel) (by decide +kernel)
set_option maxRecDepth 20000 in
theorem gX1_pairs_X5_places : GoodIn wsX1_pairs (wsV RX1 86 RX5 yX5_places wsX5_places) := goodIn_app (goodIn_of _ (by decide +kernel)) ggX1_pairs_X5_places
theorem dX1_pairs_0 : decode cX1_pairs 0 = .ok (.aload_n 0, 1) := by decide +kernel
theorem dX1_pairs_1 : decode cX1_pairs 1 = .ok (.getfield 24, 3) := by decide +kernel
theorem dX1_pairs_4 : decode cX1_pairs 4 = .ok (.getfield 83, 3) := by decide +kernel
theorem dX1_pairs_7 : decode cX1_pairs 7 = .ok (.aload_n 0, 1) := by decide +kernel
theorem dX1_pairs_8 : decode cX1_pairs 8 = .ok (.getfield 24, 3) := by decide +kernel
theorem dX1_pairs_11 : decode cX1_pairs 11 = .ok (.invokevirtual 86, 3) := by decide +kernel
theorem dX1_pairs_14 : decode cX1_pairs 14 = .ok (.imul, 1) := by decide +kernel
theorem dX1_pairs_15 : decode cX1_pairs 15 = .ok (.iconst 1, 1) := by decide +kernel
theorem dX1_pairs_16 : decode cX1_pairs 16 = .ok (.iadd, 1) := by decide +kernel
theorem dX1_pairs_17 : decode cX1_pairs 17 = .ok (.ireturn, 1) := by decide +kernel
set_option maxRecDepth 20000 in
theorem ggX1_pairAt_X5_places : GoodIn wsX1_pairAt wsX5_places := goodIn_r _ [7, 8, 17, 18, 19, 20, 21, 22, 23, 24, 25, 26] (by decide +kernel) (by decide +kernel)
set_option maxRecDepth 20000 in
theorem gX1_pairAt_X5_places : GoodIn wsX1_pairAt (wsV RX1 86 RX5 yX5_places wsX5_places) := goodIn_app (goodIn_of _ (by decide +kernel)) ggX1_pairAt_X5_places
theorem dX1_pairAt_0 : decode cX1_pairAt 0 = .ok (.aload_n 0, 1) := by decide +kernel
theorem dX1_pairAt_1 : decode cX1_pairAt 1 = .ok (.getfield 24, 3) := by decide +kernel
theorem dX1_pairAt_4 : decode cX1_pairAt 4 = .ok (.invokevirtual 86, 3) := by decide +kernel
theorem dX1_pairAt_7 : decode cX1_pairAt 7 = .ok (.istore_n 2, 1) := by decide +kernel
theorem dX1_pairAt_8 : decode cX1_pairAt 8 = .ok (.iload_n 2, 1) := by decide +kernel
theorem dX1_pairAt_9 : decode cX1_pairAt 9 = .ok (.ifCond .le 16, 3) := by decide +kernel
theorem dX1_pairAt_12 : decode cX1_pairAt 12 = .ok (.iload_n 1, 1) := by decide +kernel
theorem dX1_pairAt_13 : decode cX1_pairAt 13 = .ok (.aload_n 0, 1) := by decide +kernel
theorem dX1_pairAt_14 : decode cX1_pairAt 14 = .ok (.getfield 24, 3) := by decide +kernel
theorem dX1_pairAt_17 : decode cX1_pairAt 17 = .ok (.getfield 83, 3) := by decide +kernel
theorem dX1_pairAt_20 : decode cX1_pairAt 20 = .ok (.iload_n 2, 1) := by decide +kernel
theorem dX1_pairAt_21 : decode cX1_pairAt 21 = .ok (.imul, 1) := by decide +kernel
theorem dX1_pairAt_22 : decode cX1_pairAt 22 = .ok (.if_icmp .lt 6, 3) := by decide +kernel
theorem dX1_pairAt_25 : decode cX1_pairAt 25 = .ok (.bipush 100, 2) := by decide +kernel
theorem dX1_pairAt_27 : decode cX1_pairAt 27 = .ok (.ireturn, 1) := by decide +kernel
theorem dX1_pairAt_28 : decode cX1_pairAt 28 = .ok (.bipush 10, 2) := by decide +kernel
theorem dX1_pairAt_30 : decode cX1_pairAt 30 = .ok (.iload_n 1, 1) := by decide +kernel
theorem dX1_pairAt_31 : decode cX1_pairAt 31 = .ok (.iload_n 2, 1) := by decide +kernel
theorem dX1_pairAt_32 : decode cX1_pairAt 32 = .ok (.idiv, 1) := by decide +kernel
theorem dX1_pairAt_33 : decode cX1_pairAt 33 = .ok (.imul, 1) := by decide +kernel
theorem dX1_pairAt_34 : decode cX1_pairAt 34 = .ok (.iload_n 1, 1) := by decide +kernel
theorem dX1_pairAt_35 : decode cX1_pairAt 35 = .ok (.iload_n 2, 1) := by decide +kernel
theorem dX1_pairAt_36 : decode cX1_pairAt 36 = .ok (.irem, 1) := by decide +kernel
theorem dX1_pairAt_37 : decode cX1_pairAt 37 = .ok (.iadd, 1) := by decide +kernel
theorem dX1_pairAt_38 : decode cX1_pairAt 38 = .ok (.ireturn, 1) := by decide +kernel
theorem dX1_soundOf_0 : decode cX1_soundOf 0 = .ok (.iload_n 0, 1) := by decide +kernel
theorem dX1_soundOf_1 : decode cX1_soundOf 1 = .ok (.bipush 100, 2) := by decide +kernel
theorem dX1_soundOf_3 : decode cX1_soundOf 3 = .ok (.if_icmp .ne 7, 3) := by decide +kernel
theorem dX1_soundOf_6 : decode cX1_soundOf 6 = .ok (.iconst (-1), 1) := by decide +kernel
theorem dX1_soundOf_7 : decode cX1_soundOf 7 = .ok (.goto 7, 3) := by decide +kernel
theorem dX1_soundOf_10 : decode cX1_soundOf 10 = .ok (.iload_n 0, 1) := by decide +kernel
theorem dX1_soundOf_11 : decode cX1_soundOf 11 = .ok (.bipush 10, 2) := by decide +kernel
theorem dX1_soundOf_13 : decode cX1_soundOf 13 = .ok (.idiv, 1) := by decide +kernel
theorem dX1_soundOf_14 : decode cX1_soundOf 14 = .ok (.ireturn, 1) := by decide +kernel
theorem dX2_init_0 : decode cX2_init 0 = .ok (.aload_n 0, 1) := by decide +kernel
theorem dX2_init_1 : decode cX2_init 1 = .ok (.invokespecial 3, 3) := by decide +kernel
theorem dX2_init_4 : decode cX2_init 4 = .ok (.aload_n 0, 1) := by decide +kernel
theorem dX2_init_5 : decode cX2_init 5 = .ok (.aload_n 1, 1) := by decide +kernel
theorem dX2_init_6 : decode cX2_init 6 = .ok (.putfield 9, 3) := by decide +kernel
theorem dX2_init_9 : decode cX2_init 9 = .ok (.aload_n 0, 1) := by decide +kernel
theorem dX2_init_10 : decode cX2_init 10 = .ok (.aload_n 2, 1) := by decide +kernel
theorem dX2_init_11 : decode cX2_init 11 = .ok (.putfield 15, 3) := by decide +kernel
theorem dX2_init_14 : decode cX2_init 14 = .ok (.return_, 1) := by decide +kernel
set_option maxRecDepth 20000 in
theorem ggX2_loudness_X7_get : GoodIn wsX2_loudness wsX7_get := goodIn_r _ [15] (by decide +kernel) (by decide +kernel)
set_option maxRecDepth 20000 in
theorem gX2_loudness_X7_get : GoodIn wsX2_loudness (va_wsS RX2 34 yX7_get wsX7_get) := goodIn_app (goodIn_of _ (by decide +kernel)) ggX2_loudness_X7_get
theorem dX2_loudness_0 : decode cX2_loudness 0 = .ok (.iload_n 2, 1) := by decide +kernel
theorem dX2_loudness_1 : decode cX2_loudness 1 = .ok (.iload_n 3, 1) := by decide +kernel
theorem dX2_loudness_2 : decode cX2_loudness 2 = .ok (.invokestatic 19, 3) := by decide +kernel
theorem dX2_loudness_5 : decode cX2_loudness 5 = .ok (.istore 4, 2) := by decide +kernel
theorem dX2_loudness_7 : decode cX2_loudness 7 = .ok (.iload_n 2, 1) := by decide +kernel
theorem dX2_loudness_8 : decode cX2_loudness 8 = .ok (.iload_n 3, 1) := by decide +kernel
theorem dX2_loudness_9 : decode cX2_loudness 9 = .ok (.invokestatic 25, 3) := by decide +kernel
theorem dX2_loudness_12 : decode cX2_loudness 12 = .ok (.istore 5, 2) := by decide +kernel
theorem dX2_loudness_14 : decode cX2_loudness 14 = .ok (.aload_n 0, 1) := by decide +kernel
theorem dX2_loudness_15 : decode cX2_loudness 15 = .ok (.getfield 9, 3) := by decide +kernel
theorem dX2_loudness_18 : decode cX2_loudness 18 = .ok (.getfield 28, 3) := by decide +kernel
theorem dX2_loudness_21 : decode cX2_loudness 21 = .ok (.iload_n 1, 1) := by decide +kernel
theorem dX2_loudness_22 : decode cX2_loudness 22 = .ok (.invokestatic 34, 3) := by decide +kernel
theorem dX2_loudness_25 : decode cX2_loudness 25 = .ok (.iload 5, 2) := by decide +kernel
theorem dX2_loudness_27 : decode cX2_loudness 27 = .ok (.iload 4, 2) := by decide +kernel
theorem dX2_loudness_29 : decode cX2_loudness 29 = .ok (.isub, 1) := by decide +kernel
theorem dX2_loudness_30 : decode cX2_loudness 30 = .ok (.isub, 1) := by decide +kernel
theorem dX2_loudness_31 : decode cX2_loudness 31 = .ok (.aload_n 0, 1) := by decide +kernel
theorem dX2_loudness_32 : decode cX2_loudness 32 = .ok (.getfield 15, 3) := by decide +kernel
theorem dX2_loudness_35 : decode cX2_loudness 35 = .ok (.getfield 40, 3) := by decide +kernel
theorem dX2_loudness_38 : decode cX2_loudness 38 = .ok (.iconst 0, 1) := by decide +kernel
theorem dX2_loudness_39 : decode cX2_loudness 39 = .ok (.invokestatic 34, 3) := by decide +kernel
theorem dX2_loudness_42 : decode cX2_loudness 42 = .ok (.iload_n 3, 1) := by decide +kernel
theorem dX2_loudness_43 : decode cX2_loudness 43 = .ok (.iload_n 2, 1) := by decide +kernel
theorem dX2_loudness_44 : decode cX2_loudness 44 = .ok (.isub, 1) := by decide +kernel
theorem dX2_loudness_45 : decode cX2_loudness 45 = .ok (.imul, 1) := by decide +kernel
theorem dX2_loudness_46 : decode cX2_loudness 46 = .ok (.iadd, 1) := by decide +kernel
theorem dX2_loudness_47 : decode cX2_loudness 47 = .ok (.istore 6, 2) := by decide +kernel
theorem dX2_loudness_49 : decode cX2_loudness 49 = .ok (.iload 4, 2) := by decide +kernel
theorem dX2_loudness_51 : decode cX2_loudness 51 = .ok (.istore 7, 2) := by decide +kernel
theorem dX2_loudness_53 : decode cX2_loudness 53 = .ok (.iload 7, 2) := by decide +kernel
theorem dX2_loudness_55 : decode cX2_loudness 55 = .ok (.iload 5, 2) := by decide +kernel
theorem dX2_loudness_57 : decode cX2_loudness 57 = .ok (.if_icmp .ge 29, 3) := by decide +kernel
theorem dX2_loudness_60 : decode cX2_loudness 60 = .ok (.iload 6, 2) := by decide +kernel
theorem dX2_loudness_62 : decode cX2_loudness 62 = .ok (.aload_n 0, 1) := by decide +kernel
theorem dX2_loudness_63 : decode cX2_loudness 63 = .ok (.getfield 15, 3) := by decide +kernel
theorem dX2_loudness_66 : decode cX2_loudness 66 = .ok (.getfield 40, 3) := by decide +kernel
theorem dX2_loudness_69 : decode cX2_loudness 69 = .ok (.bipush 6, 2) := by decide +kernel
theorem dX2_loudness_71 : decode cX2_loudness 71 = .ok (.iload 7, 2) := by decide +kernel
theorem dX2_loudness_73 : decode cX2_loudness 73 = .ok (.iadd, 1) := by decide +kernel
theorem dX2_loudness_74 : decode cX2_loudness 74 = .ok (.invokestatic 34, 3) := by decide +kernel
theorem dX2_loudness_77 : decode cX2_loudness 77 = .ok (.isub, 1) := by decide +kernel
theorem dX2_loudness_78 : decode cX2_loudness 78 = .ok (.istore 6, 2) := by decide +kernel
theorem dX2_loudness_80 : decode cX2_loudness 80 = .ok (.iinc 7 1, 3) := by decide +kernel
theorem dX2_loudness_83 : decode cX2_loudness 83 = .ok (.goto (-30), 3) := by decide +kernel
theorem dX2_loudness_86 : decode cX2_loudness 86 = .ok (.iload 6, 2) := by decide +kernel
theorem dX2_loudness_88 : decode cX2_loudness 88 = .ok (.ireturn, 1) := by decide +kernel
set_option maxRecDepth 20000 in
theorem ggX2_margin_X7_get : GoodIn wsX2_margin wsX7_get := goodIn_r _ [8] (by decide +kernel) (by decide +kernel)
set_option maxRecDepth 20000 in
theorem gX2_margin_X7_get : GoodIn wsX2_margin (va_wsS RX2 34 yX7_get wsX7_get) := goodIn_app (goodIn_of _ (by decide +kernel)) ggX2_margin_X7_get
set_option maxRecDepth 20000 in
theorem ggX2_margin_X2_loudness : GoodIn wsX2_margin wsX2_loudness := goodIn_r _ [13, 14, 15, 16, 17, 18, 19, 20, 3, 21, 1, 2, 5, 6, 7, 8, 22, 23, 25, 26, 27, 28, 29, 30, 31, 32, 33, 34, 24] (by decide +kernel) (by decide +kernel)
set_option maxRecDepth 20000 in
theorem gX2_margin_X2_loudness : GoodIn wsX2_margin (wsV RX2 45 RX2 yX2_loudness wsX2_loudness) := goodIn_app (goodIn_of _ (by decide +kernel)) ggX2_margin_X2_loudness
theorem dX2_margin_0 : decode cX2_margin 0 = .ok (.aload_n 0, 1) := by decide +kernel
theorem dX2_margin_1 : decode cX2_margin 1 = .ok (.iload_n 2, 1) := by decide +kernel
theorem dX2_margin_2 : decode cX2_margin 2 = .ok (.iload_n 3, 1) := by decide +kernel
theorem dX2_margin_3 : decode cX2_margin 3 = .ok (.aload_n 0, 1) := by decide +kernel
theorem dX2_margin_4 : decode cX2_margin 4 = .ok (.getfield 15, 3) := by decide +kernel
theorem dX2_margin_7 : decode cX2_margin 7 = .ok (.getfield 40, 3) := by decide +kernel
theorem dX2_margin_10 : decode cX2_margin 10 = .ok (.bipush 14, 2) := by decide +kernel
theorem dX2_margin_12 : decode cX2_margin 12 = .ok (.iload_n 1, 1) := by decide +kernel
theorem dX2_margin_13 : decode cX2_margin 13 = .ok (.iadd, 1) := by decide +kernel
theorem dX2_margin_14 : decode cX2_margin 14 = .ok (.invokestatic 34, 3) := by decide +kernel
theorem dX2_margin_17 : decode cX2_margin 17 = .ok (.invokevirtual 45, 3) := by decide +kernel
theorem dX2_margin_20 : decode cX2_margin 20 = .ok (.aload_n 0, 1) := by decide +kernel
theorem dX2_margin_21 : decode cX2_margin 21 = .ok (.getfield 9, 3) := by decide +kernel
theorem dX2_margin_24 : decode cX2_margin 24 = .ok (.getfield 49, 3) := by decide +kernel
theorem dX2_margin_27 : decode cX2_margin 27 = .ok (.iload_n 1, 1) := by decide +kernel
theorem dX2_margin_28 : decode cX2_margin 28 = .ok (.invokestatic 34, 3) := by decide +kernel
theorem dX2_margin_31 : decode cX2_margin 31 = .ok (.isub, 1) := by decide +kernel
theorem dX2_margin_32 : decode cX2_margin 32 = .ok (.ireturn, 1) := by decide +kernel
set_option maxRecDepth 20000 in
theorem ggX2_hearers_X2_margin : GoodIn wsX2_hearers wsX2_margin := goodIn_r _ [7, 8, 9, 1, 10, 11, 12, 13, 14, 15, 16, 17, 6, 18, 19, 20, 21, 22, 23, 24, 25, 26, 27, 28, 39, 29, 30, 31, 32, 33, 34, 35, 36, 37, 38] (by decide +kernel) (by decide +kernel)
set_option maxRecDepth 20000 in
theorem gX2_hearers_X2_margin : GoodIn wsX2_hearers (wsV RX2 56 RX2 yX2_margin wsX2_margin) := goodIn_app (goodIn_of _ (by decide +kernel)) ggX2_hearers_X2_margin
theorem dX2_hearers_0 : decode cX2_hearers 0 = .ok (.iconst 0, 1) := by decide +kernel
theorem dX2_hearers_1 : decode cX2_hearers 1 = .ok (.istore 4, 2) := by decide +kernel
theorem dX2_hearers_3 : decode cX2_hearers 3 = .ok (.iconst 0, 1) := by decide +kernel
theorem dX2_hearers_4 : decode cX2_hearers 4 = .ok (.istore 5, 2) := by decide +kernel
theorem dX2_hearers_6 : decode cX2_hearers 6 = .ok (.iload 5, 2) := by decide +kernel
theorem dX2_hearers_8 : decode cX2_hearers 8 = .ok (.aload_n 0, 1) := by decide +kernel
theorem dX2_hearers_9 : decode cX2_hearers 9 = .ok (.getfield 9, 3) := by decide +kernel
theorem dX2_hearers_12 : decode cX2_hearers 12 = .ok (.getfield 52, 3) := by decide +kernel
theorem dX2_hearers_15 : decode cX2_hearers 15 = .ok (.if_icmp .ge 30, 3) := by decide +kernel
theorem dX2_hearers_18 : decode cX2_hearers 18 = .ok (.aload_n 0, 1) := by decide +kernel
theorem dX2_hearers_19 : decode cX2_hearers 19 = .ok (.iload 5, 2) := by decide +kernel
theorem dX2_hearers_21 : decode cX2_hearers 21 = .ok (.iload_n 1, 1) := by decide +kernel
theorem dX2_hearers_22 : decode cX2_hearers 22 = .ok (.iload_n 2, 1) := by decide +kernel
theorem dX2_hearers_23 : decode cX2_hearers 23 = .ok (.invokevirtual 56, 3) := by decide +kernel
theorem dX2_hearers_26 : decode cX2_hearers 26 = .ok (.iload_n 3, 1) := by decide +kernel
theorem dX2_hearers_27 : decode cX2_hearers 27 = .ok (.if_icmp .lt 12, 3) := by decide +kernel
theorem dX2_hearers_30 : decode cX2_hearers 30 = .ok (.iload 4, 2) := by decide +kernel
theorem dX2_hearers_32 : decode cX2_hearers 32 = .ok (.iconst 1, 1) := by decide +kernel
theorem dX2_hearers_33 : decode cX2_hearers 33 = .ok (.iload 5, 2) := by decide +kernel
theorem dX2_hearers_35 : decode cX2_hearers 35 = .ok (.ishl, 1) := by decide +kernel
theorem dX2_hearers_36 : decode cX2_hearers 36 = .ok (.ior, 1) := by decide +kernel
theorem dX2_hearers_37 : decode cX2_hearers 37 = .ok (.istore 4, 2) := by decide +kernel
theorem dX2_hearers_39 : decode cX2_hearers 39 = .ok (.iinc 5 1, 3) := by decide +kernel
theorem dX2_hearers_42 : decode cX2_hearers 42 = .ok (.goto (-36), 3) := by decide +kernel
theorem dX2_hearers_45 : decode cX2_hearers 45 = .ok (.iload 4, 2) := by decide +kernel
theorem dX2_hearers_47 : decode cX2_hearers 47 = .ok (.ireturn, 1) := by decide +kernel
set_option maxRecDepth 20000 in
theorem ggX2_saying_X7_get : GoodIn wsX2_saying wsX7_get := goodIn_r _ [8] (by decide +kernel) (by decide +kernel)
set_option maxRecDepth 20000 in
theorem gX2_saying_X7_get : GoodIn wsX2_saying (va_wsS RX2 34 yX7_get wsX7_get) := goodIn_app (goodIn_of _ (by decide +kernel)) ggX2_saying_X7_get
set_option maxRecDepth 20000 in
theorem ggX2_saying_X2_margin : GoodIn wsX2_saying wsX2_margin := goodIn_r _ [13, 14, 15, 1, 16, 5, 6, 7, 8, 17, 18, 19, 12, 20, 21, 22, 23, 24, 25, 26, 27, 28, 29, 30, 41, 31, 32, 33, 34, 35, 36, 37, 38, 39, 40] (by decide +kernel) (by decide +kernel)
set_option maxRecDepth 20000 in
theorem gX2_saying_X2_margin : GoodIn wsX2_saying (wsV RX2 56 RX2 yX2_margin wsX2_margin) := goodIn_app (goodIn_of _ (by decide +kernel)) ggX2_saying_X2_margin
theorem dX2_saying_0 : decode cX2_saying 0 = .ok (.aload_n 0, 1) := by decide +kernel
theorem dX2_saying_1 : decode cX2_saying 1 = .ok (.getfield 9, 3) := by decide +kernel
theorem dX2_saying_4 : decode cX2_saying 4 = .ok (.getfield 59, 3) := by decide +kernel
theorem dX2_saying_7 : decode cX2_saying 7 = .ok (.iload_n 1, 1) := by decide +kernel
theorem dX2_saying_8 : decode cX2_saying 8 = .ok (.invokestatic 34, 3) := by decide +kernel
theorem dX2_saying_11 : decode cX2_saying 11 = .ok (.istore 4, 2) := by decide +kernel
theorem dX2_saying_13 : decode cX2_saying 13 = .ok (.iload 4, 2) := by decide +kernel
theorem dX2_saying_15 : decode cX2_saying 15 = .ok (.iconst 1, 1) := by decide +kernel
theorem dX2_saying_16 : decode cX2_saying 16 = .ok (.if_icmp .ne 31, 3) := by decide +kernel
theorem dX2_saying_19 : decode cX2_saying 19 = .ok (.aload_n 0, 1) := by decide +kernel
theorem dX2_saying_20 : decode cX2_saying 20 = .ok (.getfield 9, 3) := by decide +kernel
theorem dX2_saying_23 : decode cX2_saying 23 = .ok (.getfield 62, 3) := by decide +kernel
theorem dX2_saying_26 : decode cX2_saying 26 = .ok (.ifCond .le 19, 3) := by decide +kernel
theorem dX2_saying_29 : decode cX2_saying 29 = .ok (.iconst 2, 1) := by decide +kernel
theorem dX2_saying_30 : decode cX2_saying 30 = .ok (.aload_n 0, 1) := by decide +kernel
theorem dX2_saying_31 : decode cX2_saying 31 = .ok (.getfield 9, 3) := by decide +kernel
theorem dX2_saying_34 : decode cX2_saying 34 = .ok (.getfield 65, 3) := by decide +kernel
theorem dX2_saying_37 : decode cX2_saying 37 = .ok (.iconst 0, 1) := by decide +kernel
theorem dX2_saying_38 : decode cX2_saying 38 = .ok (.invokestatic 34, 3) := by decide +kernel
theorem dX2_saying_41 : decode cX2_saying 41 = .ok (.iadd, 1) := by decide +kernel
theorem dX2_saying_42 : decode cX2_saying 42 = .ok (.goto 4, 3) := by decide +kernel
theorem dX2_saying_45 : decode cX2_saying 45 = .ok (.iconst 0, 1) := by decide +kernel
theorem dX2_saying_46 : decode cX2_saying 46 = .ok (.ireturn, 1) := by decide +kernel
theorem dX2_saying_47 : decode cX2_saying 47 = .ok (.iload 4, 2) := by decide +kernel
theorem dX2_saying_49 : decode cX2_saying 49 = .ok (.iconst 2, 1) := by decide +kernel
theorem dX2_saying_50 : decode cX2_saying 50 = .ok (.if_icmp .eq 8, 3) := by decide +kernel
theorem dX2_saying_53 : decode cX2_saying 53 = .ok (.iload_n 2, 1) := by decide +kernel
theorem dX2_saying_54 : decode cX2_saying 54 = .ok (.iconst (-1), 1) := by decide +kernel
theorem dX2_saying_55 : decode cX2_saying 55 = .ok (.if_icmp .ne 5, 3) := by decide +kernel
theorem dX2_saying_58 : decode cX2_saying 58 = .ok (.iconst 0, 1) := by decide +kernel
theorem dX2_saying_59 : decode cX2_saying 59 = .ok (.ireturn, 1) := by decide +kernel
theorem dX2_saying_60 : decode cX2_saying 60 = .ok (.aload_n 0, 1) := by decide +kernel
theorem dX2_saying_61 : decode cX2_saying 61 = .ok (.iload_n 1, 1) := by decide +kernel
theorem dX2_saying_62 : decode cX2_saying 62 = .ok (.iload_n 2, 1) := by decide +kernel
theorem dX2_saying_63 : decode cX2_saying 63 = .ok (.iload_n 3, 1) := by decide +kernel
theorem dX2_saying_64 : decode cX2_saying 64 = .ok (.invokevirtual 56, 3) := by decide +kernel
theorem dX2_saying_67 : decode cX2_saying 67 = .ok (.istore 5, 2) := by decide +kernel
theorem dX2_saying_69 : decode cX2_saying 69 = .ok (.iload 5, 2) := by decide +kernel
theorem dX2_saying_71 : decode cX2_saying 71 = .ok (.ifCond .ge 5, 3) := by decide +kernel
theorem dX2_saying_74 : decode cX2_saying 74 = .ok (.iconst 0, 1) := by decide +kernel
theorem dX2_saying_75 : decode cX2_saying 75 = .ok (.ireturn, 1) := by decide +kernel
theorem dX2_saying_76 : decode cX2_saying 76 = .ok (.iload 5, 2) := by decide +kernel
theorem dX2_saying_78 : decode cX2_saying 78 = .ok (.iconst 5, 1) := by decide +kernel
theorem dX2_saying_79 : decode cX2_saying 79 = .ok (.if_icmp .lt 19, 3) := by decide +kernel
theorem dX2_saying_82 : decode cX2_saying 82 = .ok (.iconst 2, 1) := by decide +kernel
theorem dX2_saying_83 : decode cX2_saying 83 = .ok (.aload_n 0, 1) := by decide +kernel
theorem dX2_saying_84 : decode cX2_saying 84 = .ok (.getfield 9, 3) := by decide +kernel
theorem dX2_saying_87 : decode cX2_saying 87 = .ok (.getfield 65, 3) := by decide +kernel
theorem dX2_saying_90 : decode cX2_saying 90 = .ok (.iload_n 2, 1) := by decide +kernel
theorem dX2_saying_91 : decode cX2_saying 91 = .ok (.invokestatic 34, 3) := by decide +kernel
theorem dX2_saying_94 : decode cX2_saying 94 = .ok (.iadd, 1) := by decide +kernel
theorem dX2_saying_95 : decode cX2_saying 95 = .ok (.goto 4, 3) := by decide +kernel
theorem dX2_saying_98 : decode cX2_saying 98 = .ok (.iconst 1, 1) := by decide +kernel
theorem dX2_saying_99 : decode cX2_saying 99 = .ok (.ireturn, 1) := by decide +kernel
set_option maxRecDepth 20000 in
theorem ggX3_init_X8_init : GoodIn wsX3_init wsX8_init := goodIn_r _ [10, 11, 2, 3, 12, 13, 14, 15, 16, 6, 17, 18, 19, 20, 21, 22, 23, 24, 25, 26] (by decide +kernel) (by decide +kernel)
set_option maxRecDepth 20000 in
theorem gX3_init_X8_init : GoodIn wsX3_init (wsX8_init) := ggX3_init_X8_init
theorem dX3_init_0 : decode cX3_init 0 = .ok (.aload_n 0, 1) := by decide +kernel
theorem dX3_init_1 : decode cX3_init 1 = .ok (.invokespecial 1, 3) := by decide +kernel
theorem dX3_init_4 : decode cX3_init 4 = .ok (.aload_n 0, 1) := by decide +kernel
theorem dX3_init_5 : decode cX3_init 5 = .ok (.new 7, 3) := by decide +kernel
theorem dX3_init_8 : decode cX3_init 8 = .ok (.dup, 1) := by decide +kernel
theorem dX3_init_9 : decode cX3_init 9 = .ok (.invokespecial 9, 3) := by decide +kernel
theorem dX3_init_12 : decode cX3_init 12 = .ok (.putfield 10, 3) := by decide +kernel
theorem dX3_init_15 : decode cX3_init 15 = .ok (.return_, 1) := by decide +kernel
theorem dX4_init_0 : decode cX4_init 0 = .ok (.aload_n 0, 1) := by decide +kernel
theorem dX4_init_1 : decode cX4_init 1 = .ok (.invokespecial 3, 3) := by decide +kernel
theorem dX4_init_4 : decode cX4_init 4 = .ok (.aload_n 0, 1) := by decide +kernel
theorem dX4_init_5 : decode cX4_init 5 = .ok (.sipush 560, 3) := by decide +kernel
theorem dX4_init_8 : decode cX4_init 8 = .ok (.newarray .int, 2) := by decide +kernel
theorem dX4_init_10 : decode cX4_init 10 = .ok (.putfield 11, 3) := by decide +kernel
theorem dX4_init_13 : decode cX4_init 13 = .ok (.return_, 1) := by decide +kernel
set_option maxRecDepth 20000 in
theorem ggX4_push_X7_copy : GoodIn wsX4_push wsX7_copy := goodIn_r _ [12, 13, 14, 11, 15, 16, 17, 18] (by decide +kernel) (by decide +kernel)
set_option maxRecDepth 20000 in
theorem gX4_push_X7_copy : GoodIn wsX4_push (va_wsS RX4 24 yX7_copy wsX7_copy) := goodIn_app (goodIn_of _ (by decide +kernel)) ggX4_push_X7_copy
theorem dX4_push_0 : decode cX4_push 0 = .ok (.aload_n 1, 1) := by decide +kernel
theorem dX4_push_1 : decode cX4_push 1 = .ok (.getfield 17, 3) := by decide +kernel
theorem dX4_push_4 : decode cX4_push 4 = .ok (.iconst 0, 1) := by decide +kernel
theorem dX4_push_5 : decode cX4_push 5 = .ok (.aload_n 0, 1) := by decide +kernel
theorem dX4_push_6 : decode cX4_push 6 = .ok (.getfield 11, 3) := by decide +kernel
theorem dX4_push_9 : decode cX4_push 9 = .ok (.aload_n 0, 1) := by decide +kernel
theorem dX4_push_10 : decode cX4_push 10 = .ok (.getfield 20, 3) := by decide +kernel
theorem dX4_push_13 : decode cX4_push 13 = .ok (.bipush 28, 2) := by decide +kernel
theorem dX4_push_15 : decode cX4_push 15 = .ok (.imul, 1) := by decide +kernel
theorem dX4_push_16 : decode cX4_push 16 = .ok (.bipush 28, 2) := by decide +kernel
theorem dX4_push_18 : decode cX4_push 18 = .ok (.invokestatic 24, 3) := by decide +kernel
theorem dX4_push_21 : decode cX4_push 21 = .ok (.aload_n 0, 1) := by decide +kernel
theorem dX4_push_22 : decode cX4_push 22 = .ok (.aload_n 0, 1) := by decide +kernel
theorem dX4_push_23 : decode cX4_push 23 = .ok (.getfield 20, 3) := by decide +kernel
theorem dX4_push_26 : decode cX4_push 26 = .ok (.iconst 1, 1) := by decide +kernel
theorem dX4_push_27 : decode cX4_push 27 = .ok (.iadd, 1) := by decide +kernel
theorem dX4_push_28 : decode cX4_push 28 = .ok (.bipush 20, 2) := by decide +kernel
theorem dX4_push_30 : decode cX4_push 30 = .ok (.if_icmp .ge 12, 3) := by decide +kernel
theorem dX4_push_33 : decode cX4_push 33 = .ok (.aload_n 0, 1) := by decide +kernel
theorem dX4_push_34 : decode cX4_push 34 = .ok (.getfield 20, 3) := by decide +kernel
theorem dX4_push_37 : decode cX4_push 37 = .ok (.iconst 1, 1) := by decide +kernel
theorem dX4_push_38 : decode cX4_push 38 = .ok (.iadd, 1) := by decide +kernel
theorem dX4_push_39 : decode cX4_push 39 = .ok (.goto 4, 3) := by decide +kernel
theorem dX4_push_42 : decode cX4_push 42 = .ok (.iconst 0, 1) := by decide +kernel
theorem dX4_push_43 : decode cX4_push 43 = .ok (.putfield 20, 3) := by decide +kernel
theorem dX4_push_46 : decode cX4_push 46 = .ok (.aload_n 0, 1) := by decide +kernel
theorem dX4_push_47 : decode cX4_push 47 = .ok (.aload_n 0, 1) := by decide +kernel
theorem dX4_push_48 : decode cX4_push 48 = .ok (.getfield 30, 3) := by decide +kernel
theorem dX4_push_51 : decode cX4_push 51 = .ok (.iconst 1, 1) := by decide +kernel
theorem dX4_push_52 : decode cX4_push 52 = .ok (.iadd, 1) := by decide +kernel
theorem dX4_push_53 : decode cX4_push 53 = .ok (.bipush 20, 2) := by decide +kernel
theorem dX4_push_55 : decode cX4_push 55 = .ok (.invokestatic 33, 3) := by decide +kernel
theorem dX4_push_58 : decode cX4_push 58 = .ok (.putfield 30, 3) := by decide +kernel
theorem dX4_push_61 : decode cX4_push 61 = .ok (.return_, 1) := by decide +kernel
set_option maxRecDepth 20000 in
theorem ggX4_pop_X7_copy : GoodIn wsX4_pop wsX7_copy := goodIn_r _ [8, 9, 10, 7, 11, 12, 13, 14] (by decide +kernel) (by decide +kernel)
set_option maxRecDepth 20000 in
theorem gX4_pop_X7_copy : GoodIn wsX4_pop (va_wsS RX4 24 yX7_copy wsX7_copy) := goodIn_app (goodIn_of _ (by decide +kernel)) ggX4_pop_X7_copy
theorem dX4_pop_0 : decode cX4_pop 0 = .ok (.aload_n 0, 1) := by decide +kernel
theorem dX4_pop_1 : decode cX4_pop 1 = .ok (.getfield 30, 3) := by decide +kernel
theorem dX4_pop_4 : decode cX4_pop 4 = .ok (.ifCond .gt 5, 3) := by decide +kernel
theorem dX4_pop_7 : decode cX4_pop 7 = .ok (.iconst 0, 1) := by decide +kernel
theorem dX4_pop_8 : decode cX4_pop 8 = .ok (.ireturn, 1) := by decide +kernel
theorem dX4_pop_9 : decode cX4_pop 9 = .ok (.aload_n 0, 1) := by decide +kernel
theorem dX4_pop_10 : decode cX4_pop 10 = .ok (.aload_n 0, 1) := by decide +kernel
theorem dX4_pop_11 : decode cX4_pop 11 = .ok (.getfield 20, 3) := by decide +kernel
theorem dX4_pop_14 : decode cX4_pop 14 = .ok (.ifCond .le 12, 3) := by decide +kernel
theorem dX4_pop_17 : decode cX4_pop 17 = .ok (.aload_n 0, 1) := by decide +kernel
theorem dX4_pop_18 : decode cX4_pop 18 = .ok (.getfield 20, 3) := by decide +kernel
theorem dX4_pop_21 : decode cX4_pop 21 = .ok (.iconst 1, 1) := by decide +kernel
theorem dX4_pop_22 : decode cX4_pop 22 = .ok (.isub, 1) := by decide +kernel
theorem dX4_pop_23 : decode cX4_pop 23 = .ok (.goto 5, 3) := by decide +kernel
theorem dX4_pop_26 : decode cX4_pop 26 = .ok (.bipush 19, 2) := by decide +kernel
theorem dX4_pop_28 : decode cX4_pop 28 = .ok (.putfield 20, 3) := by decide +kernel
theorem dX4_pop_31 : decode cX4_pop 31 = .ok (.aload_n 0, 1) := by decide +kernel
theorem dX4_pop_32 : decode cX4_pop 32 = .ok (.dup, 1) := by decide +kernel
theorem dX4_pop_33 : decode cX4_pop 33 = .ok (.getfield 30, 3) := by decide +kernel
theorem dX4_pop_36 : decode cX4_pop 36 = .ok (.iconst 1, 1) := by decide +kernel
theorem dX4_pop_37 : decode cX4_pop 37 = .ok (.isub, 1) := by decide +kernel
theorem dX4_pop_38 : decode cX4_pop 38 = .ok (.putfield 30, 3) := by decide +kernel
theorem dX4_pop_41 : decode cX4_pop 41 = .ok (.aload_n 0, 1) := by decide +kernel
theorem dX4_pop_42 : decode cX4_pop 42 = .ok (.getfield 11, 3) := by decide +kernel
theorem dX4_pop_45 : decode cX4_pop 45 = .ok (.aload_n 0, 1) := by decide +kernel
theorem dX4_pop_46 : decode cX4_pop 46 = .ok (.getfield 20, 3) := by decide +kernel
theorem dX4_pop_49 : decode cX4_pop 49 = .ok (.bipush 28, 2) := by decide +kernel
theorem dX4_pop_51 : decode cX4_pop 51 = .ok (.imul, 1) := by decide +kernel
theorem dX4_pop_52 : decode cX4_pop 52 = .ok (.aload_n 1, 1) := by decide +kernel
theorem dX4_pop_53 : decode cX4_pop 53 = .ok (.getfield 17, 3) := by decide +kernel
theorem dX4_pop_56 : decode cX4_pop 56 = .ok (.iconst 0, 1) := by decide +kernel
theorem dX4_pop_57 : decode cX4_pop 57 = .ok (.bipush 28, 2) := by decide +kernel
theorem dX4_pop_59 : decode cX4_pop 59 = .ok (.invokestatic 24, 3) := by decide +kernel
theorem dX4_pop_62 : decode cX4_pop 62 = .ok (.iconst 1, 1) := by decide +kernel
theorem dX4_pop_63 : decode cX4_pop 63 = .ok (.ireturn, 1) := by decide +kernel
theorem dX4_forget_0 : decode cX4_forget 0 = .ok (.aload_n 0, 1) := by decide +kernel
theorem dX4_forget_1 : decode cX4_forget 1 = .ok (.iconst 0, 1) := by decide +kernel
theorem dX4_forget_2 : decode cX4_forget 2 = .ok (.putfield 30, 3) := by decide +kernel
theorem dX4_forget_5 : decode cX4_forget 5 = .ok (.return_, 1) := by decide +kernel
theorem dX5_init_0 : decode cX5_init 0 = .ok (.aload_n 0, 1) := by decide +kernel
theorem dX5_init_1 : decode cX5_init 1 = .ok (.invokespecial 3, 3) := by decide +kernel
theorem dX5_init_4 : decode cX5_init 4 = .ok (.aload_n 0, 1) := by decide +kernel
theorem dX5_init_5 : decode cX5_init 5 = .ok (.bipush 8, 2) := by decide +kernel
theorem dX5_init_7 : decode cX5_init 7 = .ok (.newarray .int, 2) := by decide +kernel
theorem dX5_init_9 : decode cX5_init 9 = .ok (.putfield 9, 3) := by decide +kernel
theorem dX5_init_12 : decode cX5_init 12 = .ok (.aload_n 0, 1) := by decide +kernel
theorem dX5_init_13 : decode cX5_init 13 = .ok (.bipush 6, 2) := by decide +kernel
theorem dX5_init_15 : decode cX5_init 15 = .ok (.newarray .int, 2) := by decide +kernel
theorem dX5_init_17 : decode cX5_init 17 = .ok (.putfield 15, 3) := by decide +kernel
theorem dX5_init_20 : decode cX5_init 20 = .ok (.aload_n 0, 1) := by decide +kernel
theorem dX5_init_21 : decode cX5_init 21 = .ok (.bipush 6, 2) := by decide +kernel
theorem dX5_init_23 : decode cX5_init 23 = .ok (.newarray .int, 2) := by decide +kernel
theorem dX5_init_25 : decode cX5_init 25 = .ok (.putfield 18, 3) := by decide +kernel
theorem dX5_init_28 : decode cX5_init 28 = .ok (.aload_n 0, 1) := by decide +kernel
theorem dX5_init_29 : decode cX5_init 29 = .ok (.bipush 7, 2) := by decide +kernel
theorem dX5_init_31 : decode cX5_init 31 = .ok (.newarray .int, 2) := by decide +kernel
theorem dX5_init_33 : decode cX5_init 33 = .ok (.putfield 21, 3) := by decide +kernel
theorem dX5_init_36 : decode cX5_init 36 = .ok (.aload_n 0, 1) := by decide +kernel
theorem dX5_init_37 : decode cX5_init 37 = .ok (.bipush 7, 2) := by decide +kernel
theorem dX5_init_39 : decode cX5_init 39 = .ok (.newarray .int, 2) := by decide +kernel
theorem dX5_init_41 : decode cX5_init 41 = .ok (.putfield 24, 3) := by decide +kernel
theorem dX5_init_44 : decode cX5_init 44 = .ok (.aload_n 0, 1) := by decide +kernel
theorem dX5_init_45 : decode cX5_init 45 = .ok (.bipush 7, 2) := by decide +kernel
theorem dX5_init_47 : decode cX5_init 47 = .ok (.newarray .int, 2) := by decide +kernel
theorem dX5_init_49 : decode cX5_init 49 = .ok (.putfield 27, 3) := by decide +kernel
theorem dX5_init_52 : decode cX5_init 52 = .ok (.return_, 1) := by decide +kernel
theorem dX5_clear_0 : decode cX5_clear 0 = .ok (.aload_n 0, 1) := by decide +kernel
theorem dX5_clear_1 : decode cX5_clear 1 = .ok (.iconst 0, 1) := by decide +kernel
theorem dX5_clear_2 : decode cX5_clear 2 = .ok (.putfield 30, 3) := by decide +kernel
theorem dX5_clear_5 : decode cX5_clear 5 = .ok (.aload_n 0, 1) := by decide +kernel
theorem dX5_clear_6 : decode cX5_clear 6 = .ok (.iconst 0, 1) := by decide +kernel
theorem dX5_clear_7 : decode cX5_clear 7 = .ok (.putfield 34, 3) := by decide +kernel
theorem dX5_clear_10 : decode cX5_clear 10 = .ok (.aload_n 0, 1) := by decide +kernel
theorem dX5_clear_11 : decode cX5_clear 11 = .ok (.iconst 0, 1) := by decide +kernel
theorem dX5_clear_12 : decode cX5_clear 12 = .ok (.putfield 37, 3) := by decide +kernel
theorem dX5_clear_15 : decode cX5_clear 15 = .ok (.aload_n 0, 1) := by decide +kernel
theorem dX5_clear_16 : decode cX5_clear 16 = .ok (.iconst 0, 1) := by decide +kernel
theorem dX5_clear_17 : decode cX5_clear 17 = .ok (.putfield 40, 3) := by decide +kernel
theorem dX5_clear_20 : decode cX5_clear 20 = .ok (.return_, 1) := by decide +kernel
set_option maxRecDepth 20000 in
theorem ggX5_take_X7_copy : GoodIn wsX5_take wsX7_copy := goodIn_r _ [14, 15, 16, 13, 17, 18, 19, 20] (by decide +kernel) (by decide +kernel)
set_option maxRecDepth 20000 in
theorem gX5_take_X7_copy : GoodIn wsX5_take (va_wsS RX5 43 yX7_copy wsX7_copy) := goodIn_app (goodIn_of _ (by decide +kernel)) ggX5_take_X7_copy
theorem dX5_take_0 : decode cX5_take 0 = .ok (.aload_n 0, 1) := by decide +kernel
theorem dX5_take_1 : decode cX5_take 1 = .ok (.aload_n 1, 1) := by decide +kernel
theorem dX5_take_2 : decode cX5_take 2 = .ok (.getfield 30, 3) := by decide +kernel
theorem dX5_take_5 : decode cX5_take 5 = .ok (.putfield 30, 3) := by decide +kernel
theorem dX5_take_8 : decode cX5_take 8 = .ok (.aload_n 0, 1) := by decide +kernel
theorem dX5_take_9 : decode cX5_take 9 = .ok (.aload_n 1, 1) := by decide +kernel
theorem dX5_take_10 : decode cX5_take 10 = .ok (.getfield 34, 3) := by decide +kernel
theorem dX5_take_13 : decode cX5_take 13 = .ok (.putfield 34, 3) := by decide +kernel
theorem dX5_take_16 : decode cX5_take 16 = .ok (.aload_n 0, 1) := by decide +kernel
theorem dX5_take_17 : decode cX5_take 17 = .ok (.aload_n 1, 1) := by decide +kernel
theorem dX5_take_18 : decode cX5_take 18 = .ok (.getfield 37, 3) := by decide +kernel
theorem dX5_take_21 : decode cX5_take 21 = .ok (.putfield 37, 3) := by decide +kernel
theorem dX5_take_24 : decode cX5_take 24 = .ok (.aload_n 0, 1) := by decide +kernel
theorem dX5_take_25 : decode cX5_take 25 = .ok (.aload_n 1, 1) := by decide +kernel
theorem dX5_take_26 : decode cX5_take 26 = .ok (.getfield 40, 3) := by decide +kernel
theorem dX5_take_29 : decode cX5_take 29 = .ok (.putfield 40, 3) := by decide +kernel
theorem dX5_take_32 : decode cX5_take 32 = .ok (.aload_n 1, 1) := by decide +kernel
theorem dX5_take_33 : decode cX5_take 33 = .ok (.getfield 9, 3) := by decide +kernel
theorem dX5_take_36 : decode cX5_take 36 = .ok (.iconst 0, 1) := by decide +kernel
theorem dX5_take_37 : decode cX5_take 37 = .ok (.aload_n 0, 1) := by decide +kernel
theorem dX5_take_38 : decode cX5_take 38 = .ok (.getfield 9, 3) := by decide +kernel
theorem dX5_take_41 : decode cX5_take 41 = .ok (.iconst 0, 1) := by decide +kernel
theorem dX5_take_42 : decode cX5_take 42 = .ok (.bipush 8, 2) := by decide +kernel
theorem dX5_take_44 : decode cX5_take 44 = .ok (.invokestatic 43, 3) := by decide +kernel
theorem dX5_take_47 : decode cX5_take 47 = .ok (.aload_n 1, 1) := by decide +kernel
theorem dX5_take_48 : decode cX5_take 48 = .ok (.getfield 15, 3) := by decide +kernel
theorem dX5_take_51 : decode cX5_take 51 = .ok (.iconst 0, 1) := by decide +kernel
theorem dX5_take_52 : decode cX5_take 52 = .ok (.aload_n 0, 1) := by decide +kernel
theorem dX5_take_53 : decode cX5_take 53 = .ok (.getfield 15, 3) := by decide +kernel
theorem dX5_take_56 : decode cX5_take 56 = .ok (.iconst 0, 1) := by decide +kernel
theorem dX5_take_57 : decode cX5_take 57 = .ok (.bipush 6, 2) := by decide +kernel
theorem dX5_take_59 : decode cX5_take 59 = .ok (.invokestatic 43, 3) := by decide +kernel
theorem dX5_take_62 : decode cX5_take 62 = .ok (.aload_n 1, 1) := by decide +kernel
theorem dX5_take_63 : decode cX5_take 63 = .ok (.getfield 18, 3) := by decide +kernel
theorem dX5_take_66 : decode cX5_take 66 = .ok (.iconst 0, 1) := by decide +kernel
theorem dX5_take_67 : decode cX5_take 67 = .ok (.aload_n 0, 1) := by decide +kernel
theorem dX5_take_68 : decode cX5_take 68 = .ok (.getfield 18, 3) := by decide +kernel
theorem dX5_take_71 : decode cX5_take 71 = .ok (.iconst 0, 1) := by decide +kernel
theorem dX5_take_72 : decode cX5_take 72 = .ok (.bipush 6, 2) := by decide +kernel
theorem dX5_take_74 : decode cX5_take 74 = .ok (.invokestatic 43, 3) := by decide +kernel
theorem dX5_take_77 : decode cX5_take 77 = .ok (.aload_n 1, 1) := by decide +kernel
theorem dX5_take_78 : decode cX5_take 78 = .ok (.getfield 21, 3) := by decide +kernel
theorem dX5_take_81 : decode cX5_take 81 = .ok (.iconst 0, 1) := by decide +kernel
theorem dX5_take_82 : decode cX5_take 82 = .ok (.aload_n 0, 1) := by decide +kernel
theorem dX5_take_83 : decode cX5_take 83 = .ok (.getfield 21, 3) := by decide +kernel
theorem dX5_take_86 : decode cX5_take 86 = .ok (.iconst 0, 1) := by decide +kernel
theorem dX5_take_87 : decode cX5_take 87 = .ok (.bipush 7, 2) := by decide +kernel
theorem dX5_take_89 : decode cX5_take 89 = .ok (.invokestatic 43, 3) := by decide +kernel
theorem dX5_take_92 : decode cX5_take 92 = .ok (.aload_n 1, 1) := by decide +kernel
theorem dX5_take_93 : decode cX5_take 93 = .ok (.getfield 24, 3) := by decide +kernel
theorem dX5_take_96 : decode cX5_take 96 = .ok (.iconst 0, 1) := by decide +kernel
theorem dX5_take_97 : decode cX5_take 97 = .ok (.aload_n 0, 1) := by decide +kernel
theorem dX5_take_98 : decode cX5_take 98 = .ok (.getfield 24, 3) := by decide +kernel
theorem dX5_take_101 : decode cX5_take 101 = .ok (.iconst 0, 1) := by decide +kernel
theorem dX5_take_102 : decode cX5_take 102 = .ok (.bipush 7, 2) := by decide +kernel
theorem dX5_take_104 : decode cX5_take 104 = .ok (.invokestatic 43, 3) := by decide +kernel
theorem dX5_take_107 : decode cX5_take 107 = .ok (.aload_n 1, 1) := by decide +kernel
theorem dX5_take_108 : decode cX5_take 108 = .ok (.getfield 27, 3) := by decide +kernel
theorem dX5_take_111 : decode cX5_take 111 = .ok (.iconst 0, 1) := by decide +kernel
theorem dX5_take_112 : decode cX5_take 112 = .ok (.aload_n 0, 1) := by decide +kernel
theorem dX5_take_113 : decode cX5_take 113 = .ok (.getfield 27, 3) := by decide +kernel
theorem dX5_take_116 : decode cX5_take 116 = .ok (.iconst 0, 1) := by decide +kernel
theorem dX5_take_117 : decode cX5_take 117 = .ok (.bipush 7, 2) := by decide +kernel
theorem dX5_take_119 : decode cX5_take 119 = .ok (.invokestatic 43, 3) := by decide +kernel
theorem dX5_take_122 : decode cX5_take 122 = .ok (.return_, 1) := by decide +kernel
set_option maxRecDepth 20000 in
theorem ggX5_addWall_X7_put : GoodIn wsX5_addWall wsX7_put := goodIn_r _ [6] (by decide +kernel) (by decide +kernel)
set_option maxRecDepth 20000 in
theorem gX5_addWall_X7_put : GoodIn wsX5_addWall (va_wsS RX5 49 yX7_put wsX7_put) := goodIn_app (goodIn_of _ (by decide +kernel)) ggX5_addWall_X7_put
theorem dX5_addWall_0 : decode cX5_addWall 0 = .ok (.aload_n 0, 1) := by decide +kernel
theorem dX5_addWall_1 : decode cX5_addWall 1 = .ok (.getfield 9, 3) := by decide +kernel
theorem dX5_addWall_4 : decode cX5_addWall 4 = .ok (.aload_n 0, 1) := by decide +kernel
theorem dX5_addWall_5 : decode cX5_addWall 5 = .ok (.getfield 30, 3) := by decide +kernel
theorem dX5_addWall_8 : decode cX5_addWall 8 = .ok (.iload_n 1, 1) := by decide +kernel
theorem dX5_addWall_9 : decode cX5_addWall 9 = .ok (.invokestatic 49, 3) := by decide +kernel
theorem dX5_addWall_12 : decode cX5_addWall 12 = .ok (.aload_n 0, 1) := by decide +kernel
theorem dX5_addWall_13 : decode cX5_addWall 13 = .ok (.dup, 1) := by decide +kernel
theorem dX5_addWall_14 : decode cX5_addWall 14 = .ok (.getfield 30, 3) := by decide +kernel
theorem dX5_addWall_17 : decode cX5_addWall 17 = .ok (.iconst 1, 1) := by decide +kernel
theorem dX5_addWall_18 : decode cX5_addWall 18 = .ok (.iadd, 1) := by decide +kernel
theorem dX5_addWall_19 : decode cX5_addWall 19 = .ok (.putfield 30, 3) := by decide +kernel
theorem dX5_addWall_22 : decode cX5_addWall 22 = .ok (.return_, 1) := by decide +kernel
set_option maxRecDepth 20000 in
theorem ggX5_addSound_X7_put : GoodIn wsX5_addSound wsX7_put := goodIn_r _ [7] (by decide +kernel) (by decide +kernel)
set_option maxRecDepth 20000 in
theorem gX5_addSound_X7_put : GoodIn wsX5_addSound (va_wsS RX5 49 yX7_put wsX7_put) := goodIn_app (goodIn_of _ (by decide +kernel)) ggX5_addSound_X7_put
theorem dX5_addSound_0 : decode cX5_addSound 0 = .ok (.aload_n 0, 1) := by decide +kernel
theorem dX5_addSound_1 : decode cX5_addSound 1 = .ok (.getfield 15, 3) := by decide +kernel
theorem dX5_addSound_4 : decode cX5_addSound 4 = .ok (.aload_n 0, 1) := by decide +kernel
theorem dX5_addSound_5 : decode cX5_addSound 5 = .ok (.getfield 37, 3) := by decide +kernel
theorem dX5_addSound_8 : decode cX5_addSound 8 = .ok (.iload_n 1, 1) := by decide +kernel
theorem dX5_addSound_9 : decode cX5_addSound 9 = .ok (.invokestatic 49, 3) := by decide +kernel
theorem dX5_addSound_12 : decode cX5_addSound 12 = .ok (.aload_n 0, 1) := by decide +kernel
theorem dX5_addSound_13 : decode cX5_addSound 13 = .ok (.getfield 18, 3) := by decide +kernel
theorem dX5_addSound_16 : decode cX5_addSound 16 = .ok (.aload_n 0, 1) := by decide +kernel
theorem dX5_addSound_17 : decode cX5_addSound 17 = .ok (.getfield 37, 3) := by decide +kernel
theorem dX5_addSound_20 : decode cX5_addSound 20 = .ok (.iload_n 2, 1) := by decide +kernel
theorem dX5_addSound_21 : decode cX5_addSound 21 = .ok (.invokestatic 49, 3) := by decide +kernel
theorem dX5_addSound_24 : decode cX5_addSound 24 = .ok (.aload_n 0, 1) := by decide +kernel
theorem dX5_addSound_25 : decode cX5_addSound 25 = .ok (.dup, 1) := by decide +kernel
theorem dX5_addSound_26 : decode cX5_addSound 26 = .ok (.getfield 37, 3) := by decide +kernel
theorem dX5_addSound_29 : decode cX5_addSound 29 = .ok (.iconst 1, 1) := by decide +kernel
theorem dX5_addSound_30 : decode cX5_addSound 30 = .ok (.iadd, 1) := by decide +kernel
theorem dX5_addSound_31 : decode cX5_addSound 31 = .ok (.putfield 37, 3) := by decide +kernel
theorem dX5_addSound_34 : decode cX5_addSound 34 = .ok (.return_, 1) := by decide +kernel
set_option maxRecDepth 20000 in
theorem ggX5_addWitness_X7_put : GoodIn wsX5_addWitness wsX7_put := goodIn_r _ [8] (by decide +kernel) (by decide +kernel)
set_option maxRecDepth 20000 in
theorem gX5_addWitness_X7_put : GoodIn wsX5_addWitness (va_wsS RX5 49 yX7_put wsX7_put) := goodIn_app (goodIn_of _ (by decide +kernel)) ggX5_addWitness_X7_put
theorem dX5_addWitness_0 : decode cX5_addWitness 0 = .ok (.aload_n 0, 1) := by decide +kernel
theorem dX5_addWitness_1 : decode cX5_addWitness 1 = .ok (.getfield 21, 3) := by decide +kernel
theorem dX5_addWitness_4 : decode cX5_addWitness 4 = .ok (.aload_n 0, 1) := by decide +kernel
theorem dX5_addWitness_5 : decode cX5_addWitness 5 = .ok (.getfield 40, 3) := by decide +kernel
theorem dX5_addWitness_8 : decode cX5_addWitness 8 = .ok (.iload_n 1, 1) := by decide +kernel
theorem dX5_addWitness_9 : decode cX5_addWitness 9 = .ok (.invokestatic 49, 3) := by decide +kernel
theorem dX5_addWitness_12 : decode cX5_addWitness 12 = .ok (.aload_n 0, 1) := by decide +kernel
theorem dX5_addWitness_13 : decode cX5_addWitness 13 = .ok (.getfield 24, 3) := by decide +kernel
theorem dX5_addWitness_16 : decode cX5_addWitness 16 = .ok (.aload_n 0, 1) := by decide +kernel
theorem dX5_addWitness_17 : decode cX5_addWitness 17 = .ok (.getfield 40, 3) := by decide +kernel
theorem dX5_addWitness_20 : decode cX5_addWitness 20 = .ok (.iload_n 2, 1) := by decide +kernel
theorem dX5_addWitness_21 : decode cX5_addWitness 21 = .ok (.invokestatic 49, 3) := by decide +kernel
theorem dX5_addWitness_24 : decode cX5_addWitness 24 = .ok (.aload_n 0, 1) := by decide +kernel
theorem dX5_addWitness_25 : decode cX5_addWitness 25 = .ok (.getfield 27, 3) := by decide +kernel
theorem dX5_addWitness_28 : decode cX5_addWitness 28 = .ok (.aload_n 0, 1) := by decide +kernel
theorem dX5_addWitness_29 : decode cX5_addWitness 29 = .ok (.getfield 40, 3) := by decide +kernel
theorem dX5_addWitness_32 : decode cX5_addWitness 32 = .ok (.iload_n 3, 1) := by decide +kernel
theorem dX5_addWitness_33 : decode cX5_addWitness 33 = .ok (.invokestatic 49, 3) := by decide +kernel
theorem dX5_addWitness_36 : decode cX5_addWitness 36 = .ok (.aload_n 0, 1) := by decide +kernel
theorem dX5_addWitness_37 : decode cX5_addWitness 37 = .ok (.dup, 1) := by decide +kernel
theorem dX5_addWitness_38 : decode cX5_addWitness 38 = .ok (.getfield 40, 3) := by decide +kernel
theorem dX5_addWitness_41 : decode cX5_addWitness 41 = .ok (.iconst 1, 1) := by decide +kernel
theorem dX5_addWitness_42 : decode cX5_addWitness 42 = .ok (.iadd, 1) := by decide +kernel
theorem dX5_addWitness_43 : decode cX5_addWitness 43 = .ok (.putfield 40, 3) := by decide +kernel
theorem dX5_addWitness_46 : decode cX5_addWitness 46 = .ok (.return_, 1) := by decide +kernel
theorem dX5_stands_0 : decode cX5_stands 0 = .ok (.aload_n 0, 1) := by decide +kernel
theorem dX5_stands_1 : decode cX5_stands 1 = .ok (.getfield 30, 3) := by decide +kernel
theorem dX5_stands_4 : decode cX5_stands 4 = .ok (.ifCond .le 7, 3) := by decide +kernel
theorem dX5_stands_7 : decode cX5_stands 7 = .ok (.iconst 1, 1) := by decide +kernel
theorem dX5_stands_8 : decode cX5_stands 8 = .ok (.goto 4, 3) := by decide +kernel
theorem dX5_stands_11 : decode cX5_stands 11 = .ok (.iconst 0, 1) := by decide +kernel
theorem dX5_stands_12 : decode cX5_stands 12 = .ok (.ireturn, 1) := by decide +kernel
theorem dX5_places_0 : decode cX5_places 0 = .ok (.aload_n 0, 1) := by decide +kernel
theorem dX5_places_1 : decode cX5_places 1 = .ok (.getfield 30, 3) := by decide +kernel
theorem dX5_places_4 : decode cX5_places 4 = .ok (.ifCond .le 12, 3) := by decide +kernel
theorem dX5_places_7 : decode cX5_places 7 = .ok (.aload_n 0, 1) := by decide +kernel
theorem dX5_places_8 : decode cX5_places 8 = .ok (.getfield 30, 3) := by decide +kernel
theorem dX5_places_11 : decode cX5_places 11 = .ok (.iconst 1, 1) := by decide +kernel
theorem dX5_places_12 : decode cX5_places 12 = .ok (.iadd, 1) := by decide +kernel
theorem dX5_places_13 : decode cX5_places 13 = .ok (.goto 4, 3) := by decide +kernel
theorem dX5_places_16 : decode cX5_places 16 = .ok (.iconst 0, 1) := by decide +kernel
theorem dX5_places_17 : decode cX5_places 17 = .ok (.ireturn, 1) := by decide +kernel
theorem dX5_isWall_0 : decode cX5_isWall 0 = .ok (.iload_n 1, 1) := by decide +kernel
theorem dX5_isWall_1 : decode cX5_isWall 1 = .ok (.ifCond .lt 15, 3) := by decide +kernel
theorem dX5_isWall_4 : decode cX5_isWall 4 = .ok (.iload_n 1, 1) := by decide +kernel
theorem dX5_isWall_5 : decode cX5_isWall 5 = .ok (.aload_n 0, 1) := by decide +kernel
theorem dX5_isWall_6 : decode cX5_isWall 6 = .ok (.getfield 30, 3) := by decide +kernel
theorem dX5_isWall_9 : decode cX5_isWall 9 = .ok (.if_icmp .ge 7, 3) := by decide +kernel
theorem dX5_isWall_12 : decode cX5_isWall 12 = .ok (.iconst 1, 1) := by decide +kernel
theorem dX5_isWall_13 : decode cX5_isWall 13 = .ok (.goto 4, 3) := by decide +kernel
theorem dX5_isWall_16 : decode cX5_isWall 16 = .ok (.iconst 0, 1) := by decide +kernel
theorem dX5_isWall_17 : decode cX5_isWall 17 = .ok (.ireturn, 1) := by decide +kernel
set_option maxRecDepth 20000 in
theorem ggX5_isPlace_X5_places : GoodIn wsX5_isPlace wsX5_places := goodIn_r _ [5, 6, 7, 8, 9, 10, 11, 12, 13, 14, 15, 16] (by decide +kernel) (by decide +kernel)
set_option maxRecDepth 20000 in
theorem gX5_isPlace_X5_places : GoodIn wsX5_isPlace (wsV RX5 53 RX5 yX5_places wsX5_places) := goodIn_app (goodIn_of _ (by decide +kernel)) ggX5_isPlace_X5_places
theorem dX5_isPlace_0 : decode cX5_isPlace 0 = .ok (.iload_n 1, 1) := by decide +kernel
theorem dX5_isPlace_1 : decode cX5_isPlace 1 = .ok (.ifCond .lt 15, 3) := by decide +kernel
theorem dX5_isPlace_4 : decode cX5_isPlace 4 = .ok (.iload_n 1, 1) := by decide +kernel
theorem dX5_isPlace_5 : decode cX5_isPlace 5 = .ok (.aload_n 0, 1) := by decide +kernel
theorem dX5_isPlace_6 : decode cX5_isPlace 6 = .ok (.invokevirtual 53, 3) := by decide +kernel
theorem dX5_isPlace_9 : decode cX5_isPlace 9 = .ok (.if_icmp .ge 7, 3) := by decide +kernel
theorem dX5_isPlace_12 : decode cX5_isPlace 12 = .ok (.iconst 1, 1) := by decide +kernel
theorem dX5_isPlace_13 : decode cX5_isPlace 13 = .ok (.goto 4, 3) := by decide +kernel
theorem dX5_isPlace_16 : decode cX5_isPlace 16 = .ok (.iconst 0, 1) := by decide +kernel
theorem dX5_isPlace_17 : decode cX5_isPlace 17 = .ok (.ireturn, 1) := by decide +kernel
theorem dX5_isSound_0 : decode cX5_isSound 0 = .ok (.iload_n 1, 1) := by decide +kernel
theorem dX5_isSound_1 : decode cX5_isSound 1 = .ok (.ifCond .lt 15, 3) := by decide +kernel
theorem dX5_isSound_4 : decode cX5_isSound 4 = .ok (.iload_n 1, 1) := by decide +kernel
theorem dX5_isSound_5 : decode cX5_isSound 5 = .ok (.aload_n 0, 1) := by decide +kernel
theorem dX5_isSound_6 : decode cX5_isSound 6 = .ok (.getfield 37, 3) := by decide +kernel
theorem dX5_isSound_9 : decode cX5_isSound 9 = .ok (.if_icmp .ge 7, 3) := by decide +kernel
theorem dX5_isSound_12 : decode cX5_isSound 12 = .ok (.iconst 1, 1) := by decide +kernel
theorem dX5_isSound_13 : decode cX5_isSound 13 = .ok (.goto 4, 3) := by decide +kernel
theorem dX5_isSound_16 : decode cX5_isSound 16 = .ok (.iconst 0, 1) := by decide +kernel
theorem dX5_isSound_17 : decode cX5_isSound 17 = .ok (.ireturn, 1) := by decide +kernel
theorem dX5_isWitness_0 : decode cX5_isWitness 0 = .ok (.iload_n 1, 1) := by decide +kernel
theorem dX5_isWitness_1 : decode cX5_isWitness 1 = .ok (.ifCond .lt 15, 3) := by decide +kernel
theorem dX5_isWitness_4 : decode cX5_isWitness 4 = .ok (.iload_n 1, 1) := by decide +kernel
theorem dX5_isWitness_5 : decode cX5_isWitness 5 = .ok (.aload_n 0, 1) := by decide +kernel
theorem dX5_isWitness_6 : decode cX5_isWitness 6 = .ok (.getfield 40, 3) := by decide +kernel
theorem dX5_isWitness_9 : decode cX5_isWitness 9 = .ok (.if_icmp .ge 7, 3) := by decide +kernel
theorem dX5_isWitness_12 : decode cX5_isWitness 12 = .ok (.iconst 1, 1) := by decide +kernel
theorem dX5_isWitness_13 : decode cX5_isWitness 13 = .ok (.goto 4, 3) := by decide +kernel
theorem dX5_isWitness_16 : decode cX5_isWitness 16 = .ok (.iconst 0, 1) := by decide +kernel
theorem dX5_isWitness_17 : decode cX5_isWitness 17 = .ok (.ireturn, 1) := by decide +kernel
set_option maxRecDepth 20000 in
theorem ggX5_arePlaces_X5_places : GoodIn wsX5_arePlaces wsX5_places := goodIn_r _ [5, 6, 7, 8, 9, 10, 11, 12, 13, 14, 15, 16] (by decide +kernel) (by decide +kernel)
set_option maxRecDepth 20000 in
theorem gX5_arePlaces_X5_places : GoodIn wsX5_arePlaces (wsV RX5 53 RX5 yX5_places wsX5_places) := goodIn_app (goodIn_of _ (by decide +kernel)) ggX5_arePlaces_X5_places
theorem dX5_arePlaces_0 : decode cX5_arePlaces 0 = .ok (.iload_n 1, 1) := by decide +kernel
theorem dX5_arePlaces_1 : decode cX5_arePlaces 1 = .ok (.ifCond .lt 17, 3) := by decide +kernel
theorem dX5_arePlaces_4 : decode cX5_arePlaces 4 = .ok (.iload_n 1, 1) := by decide +kernel
theorem dX5_arePlaces_5 : decode cX5_arePlaces 5 = .ok (.iconst 1, 1) := by decide +kernel
theorem dX5_arePlaces_6 : decode cX5_arePlaces 6 = .ok (.aload_n 0, 1) := by decide +kernel
theorem dX5_arePlaces_7 : decode cX5_arePlaces 7 = .ok (.invokevirtual 53, 3) := by decide +kernel
theorem dX5_arePlaces_10 : decode cX5_arePlaces 10 = .ok (.ishl, 1) := by decide +kernel
theorem dX5_arePlaces_11 : decode cX5_arePlaces 11 = .ok (.if_icmp .ge 7, 3) := by decide +kernel
theorem dX5_arePlaces_14 : decode cX5_arePlaces 14 = .ok (.iconst 1, 1) := by decide +kernel
theorem dX5_arePlaces_15 : decode cX5_arePlaces 15 = .ok (.goto 4, 3) := by decide +kernel
theorem dX5_arePlaces_18 : decode cX5_arePlaces 18 = .ok (.iconst 0, 1) := by decide +kernel
theorem dX5_arePlaces_19 : decode cX5_arePlaces 19 = .ok (.ireturn, 1) := by decide +kernel
set_option maxRecDepth 20000 in
theorem ggX5_isPair_X5_isSound : GoodIn wsX5_isPair wsX5_isSound := goodIn_r _ [5, 6, 16, 17, 18, 19, 20, 21, 22, 23, 24, 25] (by decide +kernel) (by decide +kernel)
set_option maxRecDepth 20000 in
theorem gX5_isPair_X5_isSound : GoodIn wsX5_isPair (wsV RX5 57 RX5 yX5_isSound wsX5_isSound) := goodIn_app (goodIn_of _ (by decide +kernel)) ggX5_isPair_X5_isSound
set_option maxRecDepth 20000 in
theorem ggX5_isPair_X5_isPlace : GoodIn wsX5_isPair wsX5_isPlace := goodIn_r _ [10, 11, 12, 13, 4, 14, 15, 16, 17, 18, 19, 20, 21, 22, 23, 24, 25] (by decide +kernel) (by decide +kernel)
set_option maxRecDepth 20000 in
theorem gX5_isPair_X5_isPlace : GoodIn wsX5_isPair (wsV RX5 61 RX5 yX5_isPlace wsX5_isPlace) := goodIn_app (goodIn_of _ (by decide +kernel)) ggX5_isPair_X5_isPlace
theorem dX5_isPair_0 : decode cX5_isPair 0 = .ok (.iload_n 1, 1) := by decide +kernel
theorem dX5_isPair_1 : decode cX5_isPair 1 = .ok (.bipush 100, 2) := by decide +kernel
theorem dX5_isPair_3 : decode cX5_isPair 3 = .ok (.if_icmp .eq 29, 3) := by decide +kernel
theorem dX5_isPair_6 : decode cX5_isPair 6 = .ok (.iload_n 1, 1) := by decide +kernel
theorem dX5_isPair_7 : decode cX5_isPair 7 = .ok (.ifCond .lt 29, 3) := by decide +kernel
theorem dX5_isPair_10 : decode cX5_isPair 10 = .ok (.aload_n 0, 1) := by decide +kernel
theorem dX5_isPair_11 : decode cX5_isPair 11 = .ok (.iload_n 1, 1) := by decide +kernel
theorem dX5_isPair_12 : decode cX5_isPair 12 = .ok (.bipush 10, 2) := by decide +kernel
theorem dX5_isPair_14 : decode cX5_isPair 14 = .ok (.idiv, 1) := by decide +kernel
theorem dX5_isPair_15 : decode cX5_isPair 15 = .ok (.invokevirtual 57, 3) := by decide +kernel
theorem dX5_isPair_18 : decode cX5_isPair 18 = .ok (.ifCond .eq 18, 3) := by decide +kernel
theorem dX5_isPair_21 : decode cX5_isPair 21 = .ok (.aload_n 0, 1) := by decide +kernel
theorem dX5_isPair_22 : decode cX5_isPair 22 = .ok (.iload_n 1, 1) := by decide +kernel
theorem dX5_isPair_23 : decode cX5_isPair 23 = .ok (.bipush 10, 2) := by decide +kernel
theorem dX5_isPair_25 : decode cX5_isPair 25 = .ok (.irem, 1) := by decide +kernel
theorem dX5_isPair_26 : decode cX5_isPair 26 = .ok (.invokevirtual 61, 3) := by decide +kernel
theorem dX5_isPair_29 : decode cX5_isPair 29 = .ok (.ifCond .eq 7, 3) := by decide +kernel
theorem dX5_isPair_32 : decode cX5_isPair 32 = .ok (.iconst 1, 1) := by decide +kernel
theorem dX5_isPair_33 : decode cX5_isPair 33 = .ok (.goto 4, 3) := by decide +kernel
theorem dX5_isPair_36 : decode cX5_isPair 36 = .ok (.iconst 0, 1) := by decide +kernel
theorem dX5_isPair_37 : decode cX5_isPair 37 = .ok (.ireturn, 1) := by decide +kernel
set_option maxRecDepth 20000 in
theorem ggX6_init_X5_init : GoodIn wsX6_init wsX5_init := goodIn_r _ [11, 12, 2, 3, 13, 14, 15, 16, 17, 18, 19, 20, 21, 22, 23, 24, 25, 26, 27, 28, 29] (by decide +kernel) (by decide +kernel)
set_option maxRecDepth 20000 in
theorem gX6_init_X5_init_n11 : GoodIn wsX6_init (wsX5_init) := ggX6_init_X5_init
theorem dX6_init_0 : decode cX6_init 0 = .ok (.aload_n 0, 1) := by decide +kernel
theorem dX6_init_1 : decode cX6_init 1 = .ok (.invokespecial 3, 3) := by decide +kernel
theorem dX6_init_4 : decode cX6_init 4 = .ok (.aload_n 0, 1) := by decide +kernel
theorem dX6_init_5 : decode cX6_init 5 = .ok (.new 9, 3) := by decide +kernel
theorem dX6_init_8 : decode cX6_init 8 = .ok (.dup, 1) := by decide +kernel
theorem dX6_init_9 : decode cX6_init 9 = .ok (.invokespecial 11, 3) := by decide +kernel
theorem dX6_init_12 : decode cX6_init 12 = .ok (.putfield 12, 3) := by decide +kernel
theorem dX6_init_15 : decode cX6_init 15 = .ok (.aload_n 0, 1) := by decide +kernel
theorem dX6_init_16 : decode cX6_init 16 = .ok (.iconst (-1), 1) := by decide +kernel
theorem dX6_init_17 : decode cX6_init 17 = .ok (.putfield 18, 3) := by decide +kernel
theorem dX6_init_20 : decode cX6_init 20 = .ok (.aload_n 0, 1) := by decide +kernel
theorem dX6_init_21 : decode cX6_init 21 = .ok (.aload_n 1, 1) := by decide +kernel
theorem dX6_init_22 : decode cX6_init 22 = .ok (.putfield 22, 3) := by decide +kernel
theorem dX6_init_25 : decode cX6_init 25 = .ok (.return_, 1) := by decide +kernel
set_option maxRecDepth 20000 in
theorem ggX6_read_X5_clear : GoodIn wsX6_read wsX5_clear := goodIn_r _ [12, 13, 14, 15, 16, 106, 107, 108, 109, 110, 111, 112, 113, 114, 115] (by decide +kernel) (by decide +kernel)
set_option maxRecDepth 20000 in
theorem gX6_read_X5_clear : GoodIn wsX6_read (wsV RX6 26 RX5 yX5_clear wsX5_clear) := goodIn_app (goodIn_of _ (by decide +kernel)) ggX6_read_X5_clear
set_option maxRecDepth 20000 in
theorem ggX6_read_X6_skipBlanks : GoodIn wsX6_read wsX6_skipBlanks := goodIn_r _ [21, 6, 4, 22, 23, 24, 25, 26, 27, 28, 98, 99, 100, 101, 102, 103, 104, 105] (by decide +kernel) (by decide +kernel)
set_option maxRecDepth 20000 in
theorem gX6_read_X6_skipBlanks : GoodIn wsX6_read (wsV RX6 39 RX6 yX6_skipBlanks wsX6_skipBlanks) := goodIn_app (goodIn_of _ (by decide +kernel)) ggX6_read_X6_skipBlanks
set_option maxRecDepth 20000 in
theorem ggX6_read_X6_readClause : GoodIn wsX6_read wsX6_readClause := goodIn_r _ [32, 4, 6, 1, 22, 23, 24, 25, 26, 27, 28, 33, 34, 35, 11, 36, 13, 37, 38, 39, 20, 40, 2, 3, 41, 42, 43, 44, 45, 46, 47, 48, 49, 50, 51, 52, 17, 18, 19, 21, 53, 54, 55, 56, 57, 58, 59, 60, 61, 62, 63, 64, 65, 66, 67, 68, 69, 70, 71, 72, 5, 73, 74, 75, 76, 77, 78, 79, 80, 81, 82, 83, 15, 84, 85, 86, 87, 88, 89, 90, 91, 92, 93, 94, 95, 16, 96, 97, 98, 99, 100, 101, 102, 103, 104, 105, 106, 107, 108, 109, 110, 111, 112, 113, 114, 115] (by decide +kernel) (by decide +kernel)
set_option maxRecDepth 20000 in
theorem gX6_read_X6_readClause : GoodIn wsX6_read (wsV RX6 47 RX6 yX6_readClause wsX6_readClause) := goodIn_app (goodIn_of _ (by decide +kernel)) ggX6_read_X6_readClause
theorem dX6_read_0 : decode cX6_read 0 = .ok (.aload_n 0, 1) := by decide +kernel
theorem dX6_read_1 : decode cX6_read 1 = .ok (.getfield 12, 3) := by decide +kernel
theorem dX6_read_4 : decode cX6_read 4 = .ok (.invokevirtual 26, 3) := by decide +kernel
theorem dX6_read_7 : decode cX6_read 7 = .ok (.aload_n 0, 1) := by decide +kernel
theorem dX6_read_8 : decode cX6_read 8 = .ok (.iconst 0, 1) := by decide +kernel
theorem dX6_read_9 : decode cX6_read 9 = .ok (.putfield 29, 3) := by decide +kernel
theorem dX6_read_12 : decode cX6_read 12 = .ok (.aload_n 0, 1) := by decide +kernel
theorem dX6_read_13 : decode cX6_read 13 = .ok (.iconst (-1), 1) := by decide +kernel
theorem dX6_read_14 : decode cX6_read 14 = .ok (.putfield 18, 3) := by decide +kernel
theorem dX6_read_17 : decode cX6_read 17 = .ok (.aload_n 0, 1) := by decide +kernel
theorem dX6_read_18 : decode cX6_read 18 = .ok (.iconst 0, 1) := by decide +kernel
theorem dX6_read_19 : decode cX6_read 19 = .ok (.putfield 32, 3) := by decide +kernel
theorem dX6_read_22 : decode cX6_read 22 = .ok (.aload_n 0, 1) := by decide +kernel
theorem dX6_read_23 : decode cX6_read 23 = .ok (.iconst 0, 1) := by decide +kernel
theorem dX6_read_24 : decode cX6_read 24 = .ok (.putfield 35, 3) := by decide +kernel
theorem dX6_read_27 : decode cX6_read 27 = .ok (.aload_n 0, 1) := by decide +kernel
theorem dX6_read_28 : decode cX6_read 28 = .ok (.invokevirtual 39, 3) := by decide +kernel
theorem dX6_read_31 : decode cX6_read 31 = .ok (.iconst 0, 1) := by decide +kernel
theorem dX6_read_32 : decode cX6_read 32 = .ok (.istore_n 1, 1) := by decide +kernel
theorem dX6_read_33 : decode cX6_read 33 = .ok (.iload_n 1, 1) := by decide +kernel
theorem dX6_read_34 : decode cX6_read 34 = .ok (.sipush 240, 3) := by decide +kernel
theorem dX6_read_37 : decode cX6_read 37 = .ok (.if_icmp .ge 38, 3) := by decide +kernel
theorem dX6_read_40 : decode cX6_read 40 = .ok (.aload_n 0, 1) := by decide +kernel
theorem dX6_read_41 : decode cX6_read 41 = .ok (.getfield 29, 3) := by decide +kernel
theorem dX6_read_44 : decode cX6_read 44 = .ok (.ifCond .ne 31, 3) := by decide +kernel
theorem dX6_read_47 : decode cX6_read 47 = .ok (.aload_n 0, 1) := by decide +kernel
theorem dX6_read_48 : decode cX6_read 48 = .ok (.getfield 32, 3) := by decide +kernel
theorem dX6_read_51 : decode cX6_read 51 = .ok (.aload_n 0, 1) := by decide +kernel
theorem dX6_read_52 : decode cX6_read 52 = .ok (.getfield 22, 3) := by decide +kernel
theorem dX6_read_55 : decode cX6_read 55 = .ok (.getfield 42, 3) := by decide +kernel
theorem dX6_read_58 : decode cX6_read 58 = .ok (.if_icmp .ge 17, 3) := by decide +kernel
theorem dX6_read_61 : decode cX6_read 61 = .ok (.aload_n 0, 1) := by decide +kernel
theorem dX6_read_62 : decode cX6_read 62 = .ok (.invokevirtual 47, 3) := by decide +kernel
theorem dX6_read_65 : decode cX6_read 65 = .ok (.aload_n 0, 1) := by decide +kernel
theorem dX6_read_66 : decode cX6_read 66 = .ok (.invokevirtual 39, 3) := by decide +kernel
theorem dX6_read_69 : decode cX6_read 69 = .ok (.iinc 1 1, 3) := by decide +kernel
theorem dX6_read_72 : decode cX6_read 72 = .ok (.goto (-39), 3) := by decide +kernel
theorem dX6_read_75 : decode cX6_read 75 = .ok (.return_, 1) := by decide +kernel
set_option maxRecDepth 20000 in
theorem ggX6_readClause_X9_letterAt : GoodIn wsX6_readClause wsX9_letterAt := goodIn_r _ [8, 9, 10, 94, 95] (by decide +kernel) (by decide +kernel)
set_option maxRecDepth 20000 in
theorem gX6_readClause_X9_letterAt : GoodIn wsX6_readClause (wsV RX6 50 RX9 yX9_letterAt wsX9_letterAt) := goodIn_app (goodIn_of _ (by decide +kernel)) ggX6_readClause_X9_letterAt
set_option maxRecDepth 20000 in
theorem ggX6_readClause_X5_stands : GoodIn wsX6_readClause wsX5_stands := goodIn_r _ [15, 16, 96, 97, 98, 99, 100, 101, 102, 103, 104, 105] (by decide +kernel) (by decide +kernel)
set_option maxRecDepth 20000 in
theorem gX6_readClause_X5_stands : GoodIn wsX6_readClause (wsV RX6 54 RX5 yX5_stands wsX5_stands) := goodIn_app (goodIn_of _ (by decide +kernel)) ggX6_readClause_X5_stands
set_option maxRecDepth 20000 in
theorem ggX6_readClause_X6_fail : GoodIn wsX6_readClause wsX6_fail := goodIn_r _ [21, 22, 23, 88, 89, 90, 91, 92, 93] (by decide +kernel) (by decide +kernel)
set_option maxRecDepth 20000 in
theorem gX6_readClause_X6_fail : GoodIn wsX6_readClause (wsV RX6 58 RX6 yX6_fail wsX6_fail) := goodIn_app (goodIn_of _ (by decide +kernel)) ggX6_readClause_X6_fail
set_option maxRecDepth 20000 in
theorem ggX6_readClause_X6_readWalls : GoodIn wsX6_readClause wsX6_readWalls := goodIn_r _ [27, 3, 22, 2, 1, 11, 12, 13, 14, 15, 16, 17, 18, 19, 20, 21, 23, 28, 29, 30, 31, 32, 33, 34, 35, 36, 37, 38, 39, 4, 5, 6, 7, 8, 9, 10, 40, 41, 42, 43, 44, 45, 46, 47, 48, 49, 50, 51, 52, 53, 54, 55, 88, 89, 90, 91, 92, 93, 96, 97, 98, 99, 100, 101, 102, 103, 104, 105, 94, 95] (by decide +kernel) (by decide +kernel)
set_option maxRecDepth 20000 in
theorem gX6_readClause_X6_readWalls : GoodIn wsX6_readClause (wsV RX6 62 RX6 yX6_readWalls wsX6_readWalls) := goodIn_app (goodIn_of _ (by decide +kernel)) ggX6_readClause_X6_readWalls
set_option maxRecDepth 20000 in
theorem ggX6_readClause_X6_readWind : GoodIn wsX6_readClause wsX6_readWind := goodIn_r _ [59, 60, 3, 61, 17, 18, 19, 20, 21, 22, 23, 28, 29, 30, 31, 1, 2, 32, 33, 34, 35, 36, 37, 38, 39, 4, 5, 6, 7, 8, 9, 10, 40, 41, 42, 52, 53, 54, 55, 88, 89, 90, 91, 92, 93, 96, 97, 98, 99, 100, 101, 102, 103, 104, 105, 94, 95] (by decide +kernel) (by decide +kernel)
set_option maxRecDepth 20000 in
theorem gX6_readClause_X6_readWind : GoodIn wsX6_readClause (wsV RX6 66 RX6 yX6_readWind wsX6_readWind) := goodIn_app (goodIn_of _ (by decide +kernel)) ggX6_readClause_X6_readWind
set_option maxRecDepth 20000 in
theorem ggX6_readClause_X6_readSound : GoodIn wsX6_readClause wsX6_readSound := goodIn_r _ [65, 3, 66, 17, 18, 19, 20, 21, 22, 23, 28, 29, 30, 31, 1, 2, 32, 33, 34, 35, 36, 37, 38, 39, 4, 5, 6, 7, 8, 9, 10, 40, 41, 42, 67, 68, 69, 14, 70, 71, 72, 73, 48, 49, 50, 51, 52, 53, 54, 55, 88, 89, 90, 91, 92, 93, 96, 97, 98, 99, 100, 101, 102, 103, 104, 105, 94, 95] (by decide +kernel) (by decide +kernel)
set_option maxRecDepth 20000 in
theorem gX6_readClause_X6_readSound : GoodIn wsX6_readClause (wsV RX6 69 RX6 yX6_readSound wsX6_readSound) := goodIn_app (goodIn_of _ (by decide +kernel)) ggX6_readClause_X6_readSound
set_option maxRecDepth 20000 in
theorem ggX6_readClause_X6_readWitness : GoodIn wsX6_readClause wsX6_readWitness := goodIn_r _ [77, 3, 78, 79, 17, 18, 19, 20, 21, 22, 23, 28, 29, 30, 31, 1, 2, 32, 33, 34, 35, 36, 37, 38, 39, 4, 5, 6, 7, 8, 9, 10, 40, 41, 42, 80, 81, 82, 14, 83, 84, 85, 86, 87, 48, 49, 50, 51, 52, 53, 54, 55, 88, 89, 90, 91, 92, 93, 96, 97, 98, 99, 100, 101, 102, 103, 104, 105, 94, 95] (by decide +kernel) (by decide +kernel)
set_option maxRecDepth 20000 in
theorem gX6_readClause_X6_readWitness : GoodIn wsX6_readClause (wsV RX6 72 RX6 yX6_readWitness wsX6_readWitness) := goodIn_app (goodIn_of _ (by decide +kernel)) ggX6_readClause_X6_readWitness
theorem dX6_readClause_0 : decode cX6_readClause 0 = .ok (.aload_n 0, 1) := by decide +kernel
theorem dX6_readClause_1 : decode cX6_readClause 1 = .ok (.getfield 32, 3) := by decide +kernel
theorem dX6_readClause_4 : decode cX6_readClause 4 = .ok (.istore_n 1, 1) := by decide +kernel
theorem dX6_readClause_5 : decode cX6_readClause 5 = .ok (.aload_n 0, 1) := by decide +kernel
theorem dX6_readClause_6 : decode cX6_readClause 6 = .ok (.getfield 22, 3) := by decide +kernel
theorem dX6_readClause_9 : decode cX6_readClause 9 = .ok (.aload_n 0, 1) := by decide +kernel
theorem dX6_readClause_10 : decode cX6_readClause 10 = .ok (.getfield 32, 3) := by decide +kernel
theorem dX6_readClause_13 : decode cX6_readClause 13 = .ok (.invokevirtual 50, 3) := by decide +kernel
theorem dX6_readClause_16 : decode cX6_readClause 16 = .ok (.istore_n 2, 1) := by decide +kernel
theorem dX6_readClause_17 : decode cX6_readClause 17 = .ok (.aload_n 0, 1) := by decide +kernel
theorem dX6_readClause_18 : decode cX6_readClause 18 = .ok (.dup, 1) := by decide +kernel
theorem dX6_readClause_19 : decode cX6_readClause 19 = .ok (.getfield 32, 3) := by decide +kernel
theorem dX6_readClause_22 : decode cX6_readClause 22 = .ok (.iconst 1, 1) := by decide +kernel
theorem dX6_readClause_23 : decode cX6_readClause 23 = .ok (.iadd, 1) := by decide +kernel
theorem dX6_readClause_24 : decode cX6_readClause 24 = .ok (.putfield 32, 3) := by decide +kernel
theorem dX6_readClause_27 : decode cX6_readClause 27 = .ok (.aload_n 0, 1) := by decide +kernel
theorem dX6_readClause_28 : decode cX6_readClause 28 = .ok (.getfield 12, 3) := by decide +kernel
theorem dX6_readClause_31 : decode cX6_readClause 31 = .ok (.invokevirtual 54, 3) := by decide +kernel
theorem dX6_readClause_34 : decode cX6_readClause 34 = .ok (.ifCond .ne 16, 3) := by decide +kernel
theorem dX6_readClause_37 : decode cX6_readClause 37 = .ok (.iload_n 2, 1) := by decide +kernel
theorem dX6_readClause_38 : decode cX6_readClause 38 = .ok (.bipush 104, 2) := by decide +kernel
theorem dX6_readClause_40 : decode cX6_readClause 40 = .ok (.if_icmp .eq 10, 3) := by decide +kernel
theorem dX6_readClause_43 : decode cX6_readClause 43 = .ok (.aload_n 0, 1) := by decide +kernel
theorem dX6_readClause_44 : decode cX6_readClause 44 = .ok (.iconst 1, 1) := by decide +kernel
theorem dX6_readClause_45 : decode cX6_readClause 45 = .ok (.iload_n 1, 1) := by decide +kernel
theorem dX6_readClause_46 : decode cX6_readClause 46 = .ok (.invokevirtual 58, 3) := by decide +kernel
theorem dX6_readClause_49 : decode cX6_readClause 49 = .ok (.return_, 1) := by decide +kernel
theorem dX6_readClause_50 : decode cX6_readClause 50 = .ok (.iload_n 2, 1) := by decide +kernel
theorem dX6_readClause_51 : decode cX6_readClause 51 = .ok (.lookupswitch 73 #[(104, 41), (115, 57), (118, 49), (119, 65)], 41) := by decide +kernel
theorem dX6_readClause_92 : decode cX6_readClause 92 = .ok (.aload_n 0, 1) := by decide +kernel
theorem dX6_readClause_93 : decode cX6_readClause 93 = .ok (.iload_n 1, 1) := by decide +kernel
theorem dX6_readClause_94 : decode cX6_readClause 94 = .ok (.invokevirtual 62, 3) := by decide +kernel
theorem dX6_readClause_97 : decode cX6_readClause 97 = .ok (.goto 33, 3) := by decide +kernel
theorem dX6_readClause_100 : decode cX6_readClause 100 = .ok (.aload_n 0, 1) := by decide +kernel
theorem dX6_readClause_101 : decode cX6_readClause 101 = .ok (.iload_n 1, 1) := by decide +kernel
theorem dX6_readClause_102 : decode cX6_readClause 102 = .ok (.invokevirtual 66, 3) := by decide +kernel
theorem dX6_readClause_105 : decode cX6_readClause 105 = .ok (.goto 25, 3) := by decide +kernel
theorem dX6_readClause_108 : decode cX6_readClause 108 = .ok (.aload_n 0, 1) := by decide +kernel
theorem dX6_readClause_109 : decode cX6_readClause 109 = .ok (.iload_n 1, 1) := by decide +kernel
theorem dX6_readClause_110 : decode cX6_readClause 110 = .ok (.invokevirtual 69, 3) := by decide +kernel
theorem dX6_readClause_113 : decode cX6_readClause 113 = .ok (.goto 17, 3) := by decide +kernel
theorem dX6_readClause_116 : decode cX6_readClause 116 = .ok (.aload_n 0, 1) := by decide +kernel
theorem dX6_readClause_117 : decode cX6_readClause 117 = .ok (.iload_n 1, 1) := by decide +kernel
theorem dX6_readClause_118 : decode cX6_readClause 118 = .ok (.invokevirtual 72, 3) := by decide +kernel
theorem dX6_readClause_121 : decode cX6_readClause 121 = .ok (.goto 9, 3) := by decide +kernel
theorem dX6_readClause_124 : decode cX6_readClause 124 = .ok (.aload_n 0, 1) := by decide +kernel
theorem dX6_readClause_125 : decode cX6_readClause 125 = .ok (.iconst 1, 1) := by decide +kernel
theorem dX6_readClause_126 : decode cX6_readClause 126 = .ok (.iload_n 1, 1) := by decide +kernel
theorem dX6_readClause_127 : decode cX6_readClause 127 = .ok (.invokevirtual 58, 3) := by decide +kernel
theorem dX6_readClause_130 : decode cX6_readClause 130 = .ok (.return_, 1) := by decide +kernel
set_option maxRecDepth 20000 in
theorem ggX6_readWalls_X5_stands : GoodIn wsX6_readWalls wsX5_stands := goodIn_r _ [9, 10, 58, 59, 60, 61, 62, 63, 64, 65, 66, 67] (by decide +kernel) (by decide +kernel)
set_option maxRecDepth 20000 in
theorem gX6_readWalls_X5_stands : GoodIn wsX6_readWalls (wsV RX6 54 RX5 yX5_stands wsX5_stands) := goodIn_app (goodIn_of _ (by decide +kernel)) ggX6_readWalls_X5_stands
set_option maxRecDepth 20000 in
theorem ggX6_readWalls_X6_fail : GoodIn wsX6_readWalls wsX6_fail := goodIn_r _ [15, 2, 16, 52, 53, 54, 55, 56, 57] (by decide +kernel) (by decide +kernel)
set_option maxRecDepth 20000 in
theorem gX6_readWalls_X6_fail : GoodIn wsX6_readWalls (wsV RX6 58 RX6 yX6_fail wsX6_fail) := goodIn_app (goodIn_of _ (by decide +kernel)) ggX6_readWalls_X6_fail
set_option maxRecDepth 20000 in
theorem ggX6_readWalls_X6_readNumber : GoodIn wsX6_readWalls wsX6_readNumber := goodIn_r _ [20, 4, 3, 21, 22, 23, 24, 25, 26, 27, 14, 28, 29, 30, 31, 32, 33, 34, 35, 36, 37, 38, 11, 12, 13, 15, 2, 16, 52, 53, 54, 55, 56, 57, 68, 69] (by decide +kernel) (by decide +kernel)
set_option maxRecDepth 20000 in
theorem gX6_readWalls_X6_readNumber : GoodIn wsX6_readWalls (wsV RX6 75 RX6 yX6_readNumber wsX6_readNumber) := goodIn_app (goodIn_of _ (by decide +kernel)) ggX6_readWalls_X6_readNumber
set_option maxRecDepth 20000 in
theorem ggX6_readWalls_X5_addWall : GoodIn wsX6_readWalls wsX5_addWall := goodIn_r _ [42, 43, 10, 44, 45, 46, 47, 58, 59, 60, 61, 62, 63, 64, 65, 66, 67] (by decide +kernel) (by decide +kernel)
set_option maxRecDepth 20000 in
theorem gX6_readWalls_X5_addWall : GoodIn wsX6_readWalls (wsV RX6 78 RX5 yX5_addWall wsX5_addWall) := goodIn_app (goodIn_of _ (by decide +kernel)) ggX6_readWalls_X5_addWall
set_option maxRecDepth 20000 in
theorem ggX6_readWalls_X6_skipBlanks : GoodIn wsX6_readWalls wsX6_skipBlanks := goodIn_r _ [28, 3, 4, 29, 30, 31, 32, 33, 34, 35, 52, 53, 54, 55, 56, 57, 68, 69] (by decide +kernel) (by decide +kernel)
set_option maxRecDepth 20000 in
theorem gX6_readWalls_X6_skipBlanks : GoodIn wsX6_readWalls (wsV RX6 39 RX6 yX6_skipBlanks wsX6_skipBlanks) := goodIn_app (goodIn_of _ (by decide +kernel)) ggX6_readWalls_X6_skipBlanks
set_option maxRecDepth 20000 in
theorem ggX6_readWalls_X9_letterAt : GoodIn wsX6_readWalls wsX9_letterAt := goodIn_r _ [33, 34, 35, 68, 69] (by decide +kernel) (by decide +kernel)
set_option maxRecDepth 20000 in
theorem gX6_readWalls_X9_letterAt : GoodIn wsX6_readWalls (wsV RX6 50 RX9 yX9_letterAt wsX9_letterAt) := goodIn_app (goodIn_of _ (by decide +kernel)) ggX6_readWalls_X9_letterAt
set_option maxRecDepth 20000 in
theorem ggX6_readWalls_X6_readEnd : GoodIn wsX6_readWalls wsX6_readEnd := goodIn_r _ [51, 3, 4, 25, 26, 27, 14, 28, 29, 30, 31, 32, 33, 34, 35, 11, 12, 13, 15, 2, 16, 52, 53, 54, 55, 56, 57, 68, 69] (by decide +kernel) (by decide +kernel)
set_option maxRecDepth 20000 in
theorem gX6_readWalls_X6_readEnd : GoodIn wsX6_readWalls (wsV RX6 81 RX6 yX6_readEnd wsX6_readEnd) := goodIn_app (goodIn_of _ (by decide +kernel)) ggX6_readWalls_X6_readEnd
theorem dX6_readWalls_0 : decode cX6_readWalls 0 = .ok (.aload_n 0, 1) := by decide +kernel
theorem dX6_readWalls_1 : decode cX6_readWalls 1 = .ok (.getfield 12, 3) := by decide +kernel
theorem dX6_readWalls_4 : decode cX6_readWalls 4 = .ok (.invokevirtual 54, 3) := by decide +kernel
theorem dX6_readWalls_7 : decode cX6_readWalls 7 = .ok (.ifCond .eq 10, 3) := by decide +kernel
theorem dX6_readWalls_10 : decode cX6_readWalls 10 = .ok (.aload_n 0, 1) := by decide +kernel
theorem dX6_readWalls_11 : decode cX6_readWalls 11 = .ok (.iconst 3, 1) := by decide +kernel
theorem dX6_readWalls_12 : decode cX6_readWalls 12 = .ok (.iload_n 1, 1) := by decide +kernel
theorem dX6_readWalls_13 : decode cX6_readWalls 13 = .ok (.invokevirtual 58, 3) := by decide +kernel
theorem dX6_readWalls_16 : decode cX6_readWalls 16 = .ok (.return_, 1) := by decide +kernel
theorem dX6_readWalls_17 : decode cX6_readWalls 17 = .ok (.aload_n 0, 1) := by decide +kernel
theorem dX6_readWalls_18 : decode cX6_readWalls 18 = .ok (.getfield 12, 3) := by decide +kernel
theorem dX6_readWalls_21 : decode cX6_readWalls 21 = .ok (.aload_n 0, 1) := by decide +kernel
theorem dX6_readWalls_22 : decode cX6_readWalls 22 = .ok (.bipush 20, 2) := by decide +kernel
theorem dX6_readWalls_24 : decode cX6_readWalls 24 = .ok (.invokevirtual 75, 3) := by decide +kernel
theorem dX6_readWalls_27 : decode cX6_readWalls 27 = .ok (.invokevirtual 78, 3) := by decide +kernel
theorem dX6_readWalls_30 : decode cX6_readWalls 30 = .ok (.aload_n 0, 1) := by decide +kernel
theorem dX6_readWalls_31 : decode cX6_readWalls 31 = .ok (.invokevirtual 39, 3) := by decide +kernel
theorem dX6_readWalls_34 : decode cX6_readWalls 34 = .ok (.iconst 1, 1) := by decide +kernel
theorem dX6_readWalls_35 : decode cX6_readWalls 35 = .ok (.istore_n 2, 1) := by decide +kernel
theorem dX6_readWalls_36 : decode cX6_readWalls 36 = .ok (.iload_n 2, 1) := by decide +kernel
theorem dX6_readWalls_37 : decode cX6_readWalls 37 = .ok (.bipush 8, 2) := by decide +kernel
theorem dX6_readWalls_39 : decode cX6_readWalls 39 = .ok (.if_icmp .ge 59, 3) := by decide +kernel
theorem dX6_readWalls_42 : decode cX6_readWalls 42 = .ok (.aload_n 0, 1) := by decide +kernel
theorem dX6_readWalls_43 : decode cX6_readWalls 43 = .ok (.getfield 29, 3) := by decide +kernel
theorem dX6_readWalls_46 : decode cX6_readWalls 46 = .ok (.ifCond .ne 52, 3) := by decide +kernel
theorem dX6_readWalls_49 : decode cX6_readWalls 49 = .ok (.aload_n 0, 1) := by decide +kernel
theorem dX6_readWalls_50 : decode cX6_readWalls 50 = .ok (.getfield 22, 3) := by decide +kernel
theorem dX6_readWalls_53 : decode cX6_readWalls 53 = .ok (.aload_n 0, 1) := by decide +kernel
theorem dX6_readWalls_54 : decode cX6_readWalls 54 = .ok (.getfield 32, 3) := by decide +kernel
theorem dX6_readWalls_57 : decode cX6_readWalls 57 = .ok (.invokevirtual 50, 3) := by decide +kernel
theorem dX6_readWalls_60 : decode cX6_readWalls 60 = .ok (.bipush 44, 2) := by decide +kernel
theorem dX6_readWalls_62 : decode cX6_readWalls 62 = .ok (.if_icmp .ne 36, 3) := by decide +kernel
theorem dX6_readWalls_65 : decode cX6_readWalls 65 = .ok (.aload_n 0, 1) := by decide +kernel
theorem dX6_readWalls_66 : decode cX6_readWalls 66 = .ok (.dup, 1) := by decide +kernel
theorem dX6_readWalls_67 : decode cX6_readWalls 67 = .ok (.getfield 32, 3) := by decide +kernel
theorem dX6_readWalls_70 : decode cX6_readWalls 70 = .ok (.iconst 1, 1) := by decide +kernel
theorem dX6_readWalls_71 : decode cX6_readWalls 71 = .ok (.iadd, 1) := by decide +kernel
theorem dX6_readWalls_72 : decode cX6_readWalls 72 = .ok (.putfield 32, 3) := by decide +kernel
theorem dX6_readWalls_75 : decode cX6_readWalls 75 = .ok (.aload_n 0, 1) := by decide +kernel
theorem dX6_readWalls_76 : decode cX6_readWalls 76 = .ok (.getfield 12, 3) := by decide +kernel
theorem dX6_readWalls_79 : decode cX6_readWalls 79 = .ok (.aload_n 0, 1) := by decide +kernel
theorem dX6_readWalls_80 : decode cX6_readWalls 80 = .ok (.bipush 20, 2) := by decide +kernel
theorem dX6_readWalls_82 : decode cX6_readWalls 82 = .ok (.invokevirtual 75, 3) := by decide +kernel
theorem dX6_readWalls_85 : decode cX6_readWalls 85 = .ok (.invokevirtual 78, 3) := by decide +kernel
theorem dX6_readWalls_88 : decode cX6_readWalls 88 = .ok (.aload_n 0, 1) := by decide +kernel
theorem dX6_readWalls_89 : decode cX6_readWalls 89 = .ok (.invokevirtual 39, 3) := by decide +kernel
theorem dX6_readWalls_92 : decode cX6_readWalls 92 = .ok (.iinc 2 1, 3) := by decide +kernel
theorem dX6_readWalls_95 : decode cX6_readWalls 95 = .ok (.goto (-59), 3) := by decide +kernel
theorem dX6_readWalls_98 : decode cX6_readWalls 98 = .ok (.aload_n 0, 1) := by decide +kernel
theorem dX6_readWalls_99 : decode cX6_readWalls 99 = .ok (.invokevirtual 81, 3) := by decide +kernel
theorem dX6_readWalls_102 : decode cX6_readWalls 102 = .ok (.return_, 1) := by decide +kernel
set_option maxRecDepth 20000 in
theorem ggX6_readWind_X6_fail : GoodIn wsX6_readWind wsX6_fail := goodIn_r _ [8, 9, 10, 39, 40, 41, 42, 43, 44] (by decide +kernel) (by decide +kernel)
set_option maxRecDepth 20000 in
theorem gX6_readWind_X6_fail : GoodIn wsX6_readWind (wsV RX6 58 RX6 yX6_fail wsX6_fail) := goodIn_app (goodIn_of _ (by decide +kernel)) ggX6_readWind_X6_fail
set_option maxRecDepth 20000 in
theorem ggX6_readWind_X6_readNumber : GoodIn wsX6_readWind wsX6_readNumber := goodIn_r _ [14, 15, 16, 17, 18, 19, 20, 21, 22, 23, 7, 24, 25, 26, 27, 28, 29, 30, 31, 32, 33, 34, 4, 5, 6, 8, 9, 10, 39, 40, 41, 42, 43, 44, 55, 56] (by decide +kernel) (by decide +kernel)
set_option maxRecDepth 20000 in
theorem gX6_readWind_X6_readNumber : GoodIn wsX6_readWind (wsV RX6 75 RX6 yX6_readNumber wsX6_readNumber) := goodIn_app (goodIn_of _ (by decide +kernel)) ggX6_readWind_X6_readNumber
set_option maxRecDepth 20000 in
theorem ggX6_readWind_X6_readEnd : GoodIn wsX6_readWind wsX6_readEnd := goodIn_r _ [38, 16, 15, 21, 22, 23, 7, 24, 25, 26, 27, 28, 29, 30, 31, 4, 5, 6, 8, 9, 10, 39, 40, 41, 42, 43, 44, 55, 56] (by decide +kernel) (by decide +kernel)
set_option maxRecDepth 20000 in
theorem gX6_readWind_X6_readEnd : GoodIn wsX6_readWind (wsV RX6 81 RX6 yX6_readEnd wsX6_readEnd) := goodIn_app (goodIn_of _ (by decide +kernel)) ggX6_readWind_X6_readEnd
theorem dX6_readWind_0 : decode cX6_readWind 0 = .ok (.aload_n 0, 1) := by decide +kernel
theorem dX6_readWind_1 : decode cX6_readWind 1 = .ok (.getfield 35, 3) := by decide +kernel
theorem dX6_readWind_4 : decode cX6_readWind 4 = .ok (.ifCond .eq 10, 3) := by decide +kernel
theorem dX6_readWind_7 : decode cX6_readWind 7 = .ok (.aload_n 0, 1) := by decide +kernel
theorem dX6_readWind_8 : decode cX6_readWind 8 = .ok (.iconst 3, 1) := by decide +kernel
theorem dX6_readWind_9 : decode cX6_readWind 9 = .ok (.iload_n 1, 1) := by decide +kernel
theorem dX6_readWind_10 : decode cX6_readWind 10 = .ok (.invokevirtual 58, 3) := by decide +kernel
theorem dX6_readWind_13 : decode cX6_readWind 13 = .ok (.return_, 1) := by decide +kernel
theorem dX6_readWind_14 : decode cX6_readWind 14 = .ok (.aload_n 0, 1) := by decide +kernel
theorem dX6_readWind_15 : decode cX6_readWind 15 = .ok (.iconst 1, 1) := by decide +kernel
theorem dX6_readWind_16 : decode cX6_readWind 16 = .ok (.putfield 35, 3) := by decide +kernel
theorem dX6_readWind_19 : decode cX6_readWind 19 = .ok (.aload_n 0, 1) := by decide +kernel
theorem dX6_readWind_20 : decode cX6_readWind 20 = .ok (.getfield 12, 3) := by decide +kernel
theorem dX6_readWind_23 : decode cX6_readWind 23 = .ok (.aload_n 0, 1) := by decide +kernel
theorem dX6_readWind_24 : decode cX6_readWind 24 = .ok (.bipush 18, 2) := by decide +kernel
theorem dX6_readWind_26 : decode cX6_readWind 26 = .ok (.invokevirtual 75, 3) := by decide +kernel
theorem dX6_readWind_29 : decode cX6_readWind 29 = .ok (.bipush 9, 2) := by decide +kernel
theorem dX6_readWind_31 : decode cX6_readWind 31 = .ok (.isub, 1) := by decide +kernel
theorem dX6_readWind_32 : decode cX6_readWind 32 = .ok (.putfield 84, 3) := by decide +kernel
theorem dX6_readWind_35 : decode cX6_readWind 35 = .ok (.aload_n 0, 1) := by decide +kernel
theorem dX6_readWind_36 : decode cX6_readWind 36 = .ok (.invokevirtual 81, 3) := by decide +kernel
theorem dX6_readWind_39 : decode cX6_readWind 39 = .ok (.return_, 1) := by decide +kernel
set_option maxRecDepth 20000 in
theorem ggX6_readSound_X6_fail : GoodIn wsX6_readSound wsX6_fail := goodIn_r _ [7, 8, 9, 50, 51, 52, 53, 54, 55] (by decide +kernel) (by decide +kernel)
set_option maxRecDepth 20000 in
theorem gX6_readSound_X6_fail : GoodIn wsX6_readSound (wsV RX6 58 RX6 yX6_fail wsX6_fail) := goodIn_app (goodIn_of _ (by decide +kernel)) ggX6_readSound_X6_fail
set_option maxRecDepth 20000 in
theorem ggX6_readSound_X6_readNumber : GoodIn wsX6_readSound wsX6_readNumber := goodIn_r _ [13, 14, 15, 16, 17, 18, 19, 20, 21, 22, 6, 23, 24, 25, 26, 27, 28, 29, 30, 31, 32, 33, 3, 4, 5, 7, 8, 9, 50, 51, 52, 53, 54, 55, 66, 67] (by decide +kernel) (by decide +kernel)
set_option maxRecDepth 20000 in
theorem gX6_readSound_X6_readNumber : GoodIn wsX6_readSound (wsV RX6 75 RX6 yX6_readNumber wsX6_readNumber) := goodIn_app (goodIn_of _ (by decide +kernel)) ggX6_readSound_X6_readNumber
set_option maxRecDepth 20000 in
theorem ggX6_readSound_X5_addSound : GoodIn wsX6_readSound wsX5_addSound := goodIn_r _ [38, 39, 40, 41, 42, 43, 44, 45, 56, 57, 58, 59, 60, 61, 62, 63, 64, 65] (by decide +kernel) (by decide +kernel)
set_option maxRecDepth 20000 in
theorem gX6_readSound_X5_addSound : GoodIn wsX6_readSound (wsV RX6 90 RX5 yX5_addSound wsX5_addSound) := goodIn_app (goodIn_of _ (by decide +kernel)) ggX6_readSound_X5_addSound
set_option maxRecDepth 20000 in
theorem ggX6_readSound_X6_readEnd : GoodIn wsX6_readSound wsX6_readEnd := goodIn_r _ [49, 15, 14, 20, 21, 22, 6, 23, 24, 25, 26, 27, 28, 29, 30, 3, 4, 5, 7, 8, 9, 50, 51, 52, 53, 54, 55, 66, 67] (by decide +kernel) (by decide +kernel)
set_option maxRecDepth 20000 in
theorem gX6_readSound_X6_readEnd : GoodIn wsX6_readSound (wsV RX6 81 RX6 yX6_readEnd wsX6_readEnd) := goodIn_app (goodIn_of _ (by decide +kernel)) ggX6_readSound_X6_readEnd
theorem dX6_readSound_0 : decode cX6_readSound 0 = .ok (.aload_n 0, 1) := by decide +kernel
theorem dX6_readSound_1 : decode cX6_readSound 1 = .ok (.getfield 12, 3) := by decide +kernel
theorem dX6_readSound_4 : decode cX6_readSound 4 = .ok (.getfield 87, 3) := by decide +kernel
theorem dX6_readSound_7 : decode cX6_readSound 7 = .ok (.bipush 6, 2) := by decide +kernel
theorem dX6_readSound_9 : decode cX6_readSound 9 = .ok (.if_icmp .lt 10, 3) := by decide +kernel
theorem dX6_readSound_12 : decode cX6_readSound 12 = .ok (.aload_n 0, 1) := by decide +kernel
theorem dX6_readSound_13 : decode cX6_readSound 13 = .ok (.iconst 3, 1) := by decide +kernel
theorem dX6_readSound_14 : decode cX6_readSound 14 = .ok (.iload_n 1, 1) := by decide +kernel
theorem dX6_readSound_15 : decode cX6_readSound 15 = .ok (.invokevirtual 58, 3) := by decide +kernel
theorem dX6_readSound_18 : decode cX6_readSound 18 = .ok (.return_, 1) := by decide +kernel
theorem dX6_readSound_19 : decode cX6_readSound 19 = .ok (.aload_n 0, 1) := by decide +kernel
theorem dX6_readSound_20 : decode cX6_readSound 20 = .ok (.bipush 60, 2) := by decide +kernel
theorem dX6_readSound_22 : decode cX6_readSound 22 = .ok (.invokevirtual 75, 3) := by decide +kernel
theorem dX6_readSound_25 : decode cX6_readSound 25 = .ok (.istore_n 2, 1) := by decide +kernel
theorem dX6_readSound_26 : decode cX6_readSound 26 = .ok (.aload_n 0, 1) := by decide +kernel
theorem dX6_readSound_27 : decode cX6_readSound 27 = .ok (.bipush 9, 2) := by decide +kernel
theorem dX6_readSound_29 : decode cX6_readSound 29 = .ok (.invokevirtual 75, 3) := by decide +kernel
theorem dX6_readSound_32 : decode cX6_readSound 32 = .ok (.istore_n 3, 1) := by decide +kernel
theorem dX6_readSound_33 : decode cX6_readSound 33 = .ok (.aload_n 0, 1) := by decide +kernel
theorem dX6_readSound_34 : decode cX6_readSound 34 = .ok (.getfield 12, 3) := by decide +kernel
theorem dX6_readSound_37 : decode cX6_readSound 37 = .ok (.iload_n 2, 1) := by decide +kernel
theorem dX6_readSound_38 : decode cX6_readSound 38 = .ok (.iload_n 3, 1) := by decide +kernel
theorem dX6_readSound_39 : decode cX6_readSound 39 = .ok (.invokevirtual 90, 3) := by decide +kernel
theorem dX6_readSound_42 : decode cX6_readSound 42 = .ok (.aload_n 0, 1) := by decide +kernel
theorem dX6_readSound_43 : decode cX6_readSound 43 = .ok (.invokevirtual 81, 3) := by decide +kernel
theorem dX6_readSound_46 : decode cX6_readSound 46 = .ok (.return_, 1) := by decide +kernel
set_option maxRecDepth 20000 in
theorem ggX6_readWitness_X6_fail : GoodIn wsX6_readWitness wsX6_fail := goodIn_r _ [8, 9, 10, 52, 53, 54, 55, 56, 57] (by decide +kernel) (by decide +kernel)
set_option maxRecDepth 20000 in
theorem gX6_readWitness_X6_fail : GoodIn wsX6_readWitness (wsV RX6 58 RX6 yX6_fail wsX6_fail) := goodIn_app (goodIn_of _ (by decide +kernel)) ggX6_readWitness_X6_fail
set_option maxRecDepth 20000 in
theorem ggX6_readWitness_X6_readNumber : GoodIn wsX6_readWitness wsX6_readNumber := goodIn_r _ [14, 15, 16, 17, 18, 19, 20, 21, 22, 23, 7, 24, 25, 26, 27, 28, 29, 30, 31, 32, 33, 34, 4, 5, 6, 8, 9, 10, 52, 53, 54, 55, 56, 57, 68, 69] (by decide +kernel) (by decide +kernel)
set_option maxRecDepth 20000 in
theorem gX6_readWitness_X6_readNumber : GoodIn wsX6_readWitness (wsV RX6 75 RX6 yX6_readNumber wsX6_readNumber) := goodIn_app (goodIn_of _ (by decide +kernel)) ggX6_readWitness_X6_readNumber
set_option maxRecDepth 20000 in
theorem ggX6_readWitness_X5_addWitness : GoodIn wsX6_readWitness wsX5_addWitness := goodIn_r _ [39, 40, 41, 42, 43, 44, 45, 46, 47, 58, 59, 60, 61, 62, 63, 64, 65, 66, 67] (by decide +kernel) (by decide +kernel)
set_option maxRecDepth 20000 in
theorem gX6_readWitness_X5_addWitness : GoodIn wsX6_readWitness (wsV RX6 99 RX5 yX5_addWitness wsX5_addWitness) := goodIn_app (goodIn_of _ (by decide +kernel)) ggX6_readWitness_X5_addWitness
set_option maxRecDepth 20000 in
theorem ggX6_readWitness_X6_readEnd : GoodIn wsX6_readWitness wsX6_readEnd := goodIn_r _ [51, 16, 15, 21, 22, 23, 7, 24, 25, 26, 27, 28, 29, 30, 31, 4, 5, 6, 8, 9, 10, 52, 53, 54, 55, 56, 57, 68, 69] (by decide +kernel) (by decide +kernel)
set_option maxRecDepth 20000 in
theorem gX6_readWitness_X6_readEnd : GoodIn wsX6_readWitness (wsV RX6 81 RX6 yX6_readEnd wsX6_readEnd) := goodIn_app (goodIn_of _ (by decide +kernel)) ggX6_readWitness_X6_readEnd
theorem dX6_readWitness_0 : decode cX6_readWitness 0 = .ok (.aload_n 0, 1) := by decide +kernel
theorem dX6_readWitness_1 : decode cX6_readWitness 1 = .ok (.getfield 12, 3) := by decide +kernel
theorem dX6_readWitness_4 : decode cX6_readWitness 4 = .ok (.getfield 93, 3) := by decide +kernel
theorem dX6_readWitness_7 : decode cX6_readWitness 7 = .ok (.bipush 7, 2) := by decide +kernel
theorem dX6_readWitness_9 : decode cX6_readWitness 9 = .ok (.if_icmp .lt 10, 3) := by decide +kernel
theorem dX6_readWitness_12 : decode cX6_readWitness 12 = .ok (.aload_n 0, 1) := by decide +kernel
theorem dX6_readWitness_13 : decode cX6_readWitness 13 = .ok (.iconst 3, 1) := by decide +kernel
theorem dX6_readWitness_14 : decode cX6_readWitness 14 = .ok (.iload_n 1, 1) := by decide +kernel
theorem dX6_readWitness_15 : decode cX6_readWitness 15 = .ok (.invokevirtual 58, 3) := by decide +kernel
theorem dX6_readWitness_18 : decode cX6_readWitness 18 = .ok (.return_, 1) := by decide +kernel
theorem dX6_readWitness_19 : decode cX6_readWitness 19 = .ok (.aload_n 0, 1) := by decide +kernel
theorem dX6_readWitness_20 : decode cX6_readWitness 20 = .ok (.aload_n 0, 1) := by decide +kernel
theorem dX6_readWitness_21 : decode cX6_readWitness 21 = .ok (.getfield 12, 3) := by decide +kernel
theorem dX6_readWitness_24 : decode cX6_readWitness 24 = .ok (.getfield 96, 3) := by decide +kernel
theorem dX6_readWitness_27 : decode cX6_readWitness 27 = .ok (.invokevirtual 75, 3) := by decide +kernel
theorem dX6_readWitness_30 : decode cX6_readWitness 30 = .ok (.istore_n 2, 1) := by decide +kernel
theorem dX6_readWitness_31 : decode cX6_readWitness 31 = .ok (.aload_n 0, 1) := by decide +kernel
theorem dX6_readWitness_32 : decode cX6_readWitness 32 = .ok (.bipush 30, 2) := by decide +kernel
theorem dX6_readWitness_34 : decode cX6_readWitness 34 = .ok (.invokevirtual 75, 3) := by decide +kernel
theorem dX6_readWitness_37 : decode cX6_readWitness 37 = .ok (.istore_n 3, 1) := by decide +kernel
theorem dX6_readWitness_38 : decode cX6_readWitness 38 = .ok (.aload_n 0, 1) := by decide +kernel
theorem dX6_readWitness_39 : decode cX6_readWitness 39 = .ok (.iconst 2, 1) := by decide +kernel
theorem dX6_readWitness_40 : decode cX6_readWitness 40 = .ok (.invokevirtual 75, 3) := by decide +kernel
theorem dX6_readWitness_43 : decode cX6_readWitness 43 = .ok (.istore 4, 2) := by decide +kernel
theorem dX6_readWitness_45 : decode cX6_readWitness 45 = .ok (.aload_n 0, 1) := by decide +kernel
theorem dX6_readWitness_46 : decode cX6_readWitness 46 = .ok (.getfield 12, 3) := by decide +kernel
theorem dX6_readWitness_49 : decode cX6_readWitness 49 = .ok (.iload_n 2, 1) := by decide +kernel
theorem dX6_readWitness_50 : decode cX6_readWitness 50 = .ok (.iload_n 3, 1) := by decide +kernel
theorem dX6_readWitness_51 : decode cX6_readWitness 51 = .ok (.iload 4, 2) := by decide +kernel
theorem dX6_readWitness_53 : decode cX6_readWitness 53 = .ok (.invokevirtual 99, 3) := by decide +kernel
theorem dX6_readWitness_56 : decode cX6_readWitness 56 = .ok (.aload_n 0, 1) := by decide +kernel
theorem dX6_readWitness_57 : decode cX6_readWitness 57 = .ok (.invokevirtual 81, 3) := by decide +kernel
theorem dX6_readWitness_60 : decode cX6_readWitness 60 = .ok (.return_, 1) := by decide +kernel
set_option maxRecDepth 20000 in
theorem ggX6_readNumber_X6_skipBlanks : GoodIn wsX6_readNumber wsX6_skipBlanks := goodIn_r _ [11, 2, 1, 12, 13, 14, 15, 16, 17, 18, 28, 29, 30, 31, 32, 33, 34, 35] (by decide +kernel) (by decide +kernel)
set_option maxRecDepth 20000 in
theorem gX6_readNumber_X6_skipBlanks : GoodIn wsX6_readNumber (wsV RX6 39 RX6 yX6_skipBlanks wsX6_skipBlanks) := goodIn_app (goodIn_of _ (by decide +kernel)) ggX6_readNumber_X6_skipBlanks
set_option maxRecDepth 20000 in
theorem ggX6_readNumber_X9_letterAt : GoodIn wsX6_readNumber wsX9_letterAt := goodIn_r _ [16, 17, 18, 34, 35] (by decide +kernel) (by decide +kernel)
set_option maxRecDepth 20000 in
theorem gX6_readNumber_X9_letterAt : GoodIn wsX6_readNumber (wsV RX6 50 RX9 yX9_letterAt wsX9_letterAt) := goodIn_app (goodIn_of _ (by decide +kernel)) ggX6_readNumber_X9_letterAt
set_option maxRecDepth 20000 in
theorem ggX6_readNumber_X6_isFigure : GoodIn wsX6_readNumber wsX6_isFigure := goodIn_r _ [21] (by decide +kernel) (by decide +kernel)
set_option maxRecDepth 20000 in
theorem gX6_readNumber_X6_isFigure : GoodIn wsX6_readNumber (va_wsS RX6 103 yX6_isFigure wsX6_isFigure) := goodIn_app (goodIn_of _ (by decide +kernel)) ggX6_readNumber_X6_isFigure
set_option maxRecDepth 20000 in
theorem ggX6_readNumber_X6_fail : GoodIn wsX6_readNumber wsX6_fail := goodIn_r _ [25, 26, 27, 28, 29, 30, 31, 32, 33] (by decide +kernel) (by decide +kernel)
set_option maxRecDepth 20000 in
theorem gX6_readNumber_X6_fail : GoodIn wsX6_readNumber (wsV RX6 58 RX6 yX6_fail wsX6_fail) := goodIn_app (goodIn_of _ (by decide +kernel)) ggX6_readNumber_X6_fail
theorem dX6_readNumber_0 : decode cX6_readNumber 0 = .ok (.aload_n 0, 1) := by decide +kernel
theorem dX6_readNumber_1 : decode cX6_readNumber 1 = .ok (.invokevirtual 39, 3) := by decide +kernel
theorem dX6_readNumber_4 : decode cX6_readNumber 4 = .ok (.aload_n 0, 1) := by decide +kernel
theorem dX6_readNumber_5 : decode cX6_readNumber 5 = .ok (.getfield 32, 3) := by decide +kernel
theorem dX6_readNumber_8 : decode cX6_readNumber 8 = .ok (.istore_n 2, 1) := by decide +kernel
theorem dX6_readNumber_9 : decode cX6_readNumber 9 = .ok (.iconst 0, 1) := by decide +kernel
theorem dX6_readNumber_10 : decode cX6_readNumber 10 = .ok (.istore_n 3, 1) := by decide +kernel
theorem dX6_readNumber_11 : decode cX6_readNumber 11 = .ok (.iconst 0, 1) := by decide +kernel
theorem dX6_readNumber_12 : decode cX6_readNumber 12 = .ok (.istore 4, 2) := by decide +kernel
theorem dX6_readNumber_14 : decode cX6_readNumber 14 = .ok (.iload 4, 2) := by decide +kernel
theorem dX6_readNumber_16 : decode cX6_readNumber 16 = .ok (.sipush 240, 3) := by decide +kernel
theorem dX6_readNumber_19 : decode cX6_readNumber 19 = .ok (.if_icmp .ge 62, 3) := by decide +kernel
theorem dX6_readNumber_22 : decode cX6_readNumber 22 = .ok (.aload_n 0, 1) := by decide +kernel
theorem dX6_readNumber_23 : decode cX6_readNumber 23 = .ok (.getfield 22, 3) := by decide +kernel
theorem dX6_readNumber_26 : decode cX6_readNumber 26 = .ok (.aload_n 0, 1) := by decide +kernel
theorem dX6_readNumber_27 : decode cX6_readNumber 27 = .ok (.getfield 32, 3) := by decide +kernel
theorem dX6_readNumber_30 : decode cX6_readNumber 30 = .ok (.invokevirtual 50, 3) := by decide +kernel
theorem dX6_readNumber_33 : decode cX6_readNumber 33 = .ok (.invokestatic 103, 3) := by decide +kernel
theorem dX6_readNumber_36 : decode cX6_readNumber 36 = .ok (.ifCond .eq 45, 3) := by decide +kernel
theorem dX6_readNumber_39 : decode cX6_readNumber 39 = .ok (.iload_n 3, 1) := by decide +kernel
theorem dX6_readNumber_40 : decode cX6_readNumber 40 = .ok (.bipush 10, 2) := by decide +kernel
theorem dX6_readNumber_42 : decode cX6_readNumber 42 = .ok (.imul, 1) := by decide +kernel
theorem dX6_readNumber_43 : decode cX6_readNumber 43 = .ok (.aload_n 0, 1) := by decide +kernel
theorem dX6_readNumber_44 : decode cX6_readNumber 44 = .ok (.getfield 22, 3) := by decide +kernel
theorem dX6_readNumber_47 : decode cX6_readNumber 47 = .ok (.aload_n 0, 1) := by decide +kernel
theorem dX6_readNumber_48 : decode cX6_readNumber 48 = .ok (.getfield 32, 3) := by decide +kernel
theorem dX6_readNumber_51 : decode cX6_readNumber 51 = .ok (.invokevirtual 50, 3) := by decide +kernel
theorem dX6_readNumber_54 : decode cX6_readNumber 54 = .ok (.iadd, 1) := by decide +kernel
theorem dX6_readNumber_55 : decode cX6_readNumber 55 = .ok (.bipush 48, 2) := by decide +kernel
theorem dX6_readNumber_57 : decode cX6_readNumber 57 = .ok (.isub, 1) := by decide +kernel
theorem dX6_readNumber_58 : decode cX6_readNumber 58 = .ok (.sipush 1000, 3) := by decide +kernel
theorem dX6_readNumber_61 : decode cX6_readNumber 61 = .ok (.invokestatic 107, 3) := by decide +kernel
theorem dX6_readNumber_64 : decode cX6_readNumber 64 = .ok (.istore_n 3, 1) := by decide +kernel
theorem dX6_readNumber_65 : decode cX6_readNumber 65 = .ok (.aload_n 0, 1) := by decide +kernel
theorem dX6_readNumber_66 : decode cX6_readNumber 66 = .ok (.dup, 1) := by decide +kernel
theorem dX6_readNumber_67 : decode cX6_readNumber 67 = .ok (.getfield 32, 3) := by decide +kernel
theorem dX6_readNumber_70 : decode cX6_readNumber 70 = .ok (.iconst 1, 1) := by decide +kernel
theorem dX6_readNumber_71 : decode cX6_readNumber 71 = .ok (.iadd, 1) := by decide +kernel
theorem dX6_readNumber_72 : decode cX6_readNumber 72 = .ok (.putfield 32, 3) := by decide +kernel
theorem dX6_readNumber_75 : decode cX6_readNumber 75 = .ok (.iinc 4 1, 3) := by decide +kernel
theorem dX6_readNumber_78 : decode cX6_readNumber 78 = .ok (.goto (-64), 3) := by decide +kernel
theorem dX6_readNumber_81 : decode cX6_readNumber 81 = .ok (.aload_n 0, 1) := by decide +kernel
theorem dX6_readNumber_82 : decode cX6_readNumber 82 = .ok (.getfield 32, 3) := by decide +kernel
theorem dX6_readNumber_85 : decode cX6_readNumber 85 = .ok (.iload_n 2, 1) := by decide +kernel
theorem dX6_readNumber_86 : decode cX6_readNumber 86 = .ok (.if_icmp .ne 12, 3) := by decide +kernel
theorem dX6_readNumber_89 : decode cX6_readNumber 89 = .ok (.aload_n 0, 1) := by decide +kernel
theorem dX6_readNumber_90 : decode cX6_readNumber 90 = .ok (.iconst 1, 1) := by decide +kernel
theorem dX6_readNumber_91 : decode cX6_readNumber 91 = .ok (.iload_n 2, 1) := by decide +kernel
theorem dX6_readNumber_92 : decode cX6_readNumber 92 = .ok (.invokevirtual 58, 3) := by decide +kernel
theorem dX6_readNumber_95 : decode cX6_readNumber 95 = .ok (.goto 24, 3) := by decide +kernel
theorem dX6_readNumber_98 : decode cX6_readNumber 98 = .ok (.aload_n 0, 1) := by decide +kernel
theorem dX6_readNumber_99 : decode cX6_readNumber 99 = .ok (.getfield 32, 3) := by decide +kernel
theorem dX6_readNumber_102 : decode cX6_readNumber 102 = .ok (.iload_n 2, 1) := by decide +kernel
theorem dX6_readNumber_103 : decode cX6_readNumber 103 = .ok (.isub, 1) := by decide +kernel
theorem dX6_readNumber_104 : decode cX6_readNumber 104 = .ok (.iconst 3, 1) := by decide +kernel
theorem dX6_readNumber_105 : decode cX6_readNumber 105 = .ok (.if_icmp .gt 8, 3) := by decide +kernel
theorem dX6_readNumber_108 : decode cX6_readNumber 108 = .ok (.iload_n 3, 1) := by decide +kernel
theorem dX6_readNumber_109 : decode cX6_readNumber 109 = .ok (.iload_n 1, 1) := by decide +kernel
theorem dX6_readNumber_110 : decode cX6_readNumber 110 = .ok (.if_icmp .le 9, 3) := by decide +kernel
theorem dX6_readNumber_113 : decode cX6_readNumber 113 = .ok (.aload_n 0, 1) := by decide +kernel
theorem dX6_readNumber_114 : decode cX6_readNumber 114 = .ok (.iconst 2, 1) := by decide +kernel
theorem dX6_readNumber_115 : decode cX6_readNumber 115 = .ok (.iload_n 2, 1) := by decide +kernel
theorem dX6_readNumber_116 : decode cX6_readNumber 116 = .ok (.invokevirtual 58, 3) := by decide +kernel
theorem dX6_readNumber_119 : decode cX6_readNumber 119 = .ok (.iload_n 3, 1) := by decide +kernel
theorem dX6_readNumber_120 : decode cX6_readNumber 120 = .ok (.ireturn, 1) := by decide +kernel
set_option maxRecDepth 20000 in
theorem ggX6_readEnd_X6_skipBlanks : GoodIn wsX6_readEnd wsX6_skipBlanks := goodIn_r _ [7, 1, 2, 8, 9, 10, 11, 12, 13, 14, 21, 22, 23, 24, 25, 26, 27, 28] (by decide +kernel) (by decide +kernel)
set_option maxRecDepth 20000 in
theorem gX6_readEnd_X6_skipBlanks : GoodIn wsX6_readEnd (wsV RX6 39 RX6 yX6_skipBlanks wsX6_skipBlanks) := goodIn_app (goodIn_of _ (by decide +kernel)) ggX6_readEnd_X6_skipBlanks
set_option maxRecDepth 20000 in
theorem ggX6_readEnd_X9_letterAt : GoodIn wsX6_readEnd wsX9_letterAt := goodIn_r _ [12, 13, 14, 27, 28] (by decide +kernel) (by decide +kernel)
set_option maxRecDepth 20000 in
theorem gX6_readEnd_X9_letterAt : GoodIn wsX6_readEnd (wsV RX6 50 RX9 yX9_letterAt wsX9_letterAt) := goodIn_app (goodIn_of _ (by decide +kernel)) ggX6_readEnd_X9_letterAt
set_option maxRecDepth 20000 in
theorem ggX6_readEnd_X6_fail : GoodIn wsX6_readEnd wsX6_fail := goodIn_r _ [18, 19, 20, 21, 22, 23, 24, 25, 26] (by decide +kernel) (by decide +kernel)
set_option maxRecDepth 20000 in
theorem gX6_readEnd_X6_fail : GoodIn wsX6_readEnd (wsV RX6 58 RX6 yX6_fail wsX6_fail) := goodIn_app (goodIn_of _ (by decide +kernel)) ggX6_readEnd_X6_fail
theorem dX6_readEnd_0 : decode cX6_readEnd 0 = .ok (.aload_n 0, 1) := by decide +kernel
theorem dX6_readEnd_1 : decode cX6_readEnd 1 = .ok (.invokevirtual 39, 3) := by decide +kernel
theorem dX6_readEnd_4 : decode cX6_readEnd 4 = .ok (.aload_n 0, 1) := by decide +kernel
theorem dX6_readEnd_5 : decode cX6_readEnd 5 = .ok (.getfield 22, 3) := by decide +kernel
theorem dX6_readEnd_8 : decode cX6_readEnd 8 = .ok (.aload_n 0, 1) := by decide +kernel
theorem dX6_readEnd_9 : decode cX6_readEnd 9 = .ok (.getfield 32, 3) := by decide +kernel
theorem dX6_readEnd_12 : decode cX6_readEnd 12 = .ok (.invokevirtual 50, 3) := by decide +kernel
theorem dX6_readEnd_15 : decode cX6_readEnd 15 = .ok (.bipush 59, 2) := by decide +kernel
theorem dX6_readEnd_17 : decode cX6_readEnd 17 = .ok (.if_icmp .eq 12, 3) := by decide +kernel
theorem dX6_readEnd_20 : decode cX6_readEnd 20 = .ok (.aload_n 0, 1) := by decide +kernel
theorem dX6_readEnd_21 : decode cX6_readEnd 21 = .ok (.iconst 1, 1) := by decide +kernel
theorem dX6_readEnd_22 : decode cX6_readEnd 22 = .ok (.aload_n 0, 1) := by decide +kernel
theorem dX6_readEnd_23 : decode cX6_readEnd 23 = .ok (.getfield 32, 3) := by decide +kernel
theorem dX6_readEnd_26 : decode cX6_readEnd 26 = .ok (.invokevirtual 58, 3) := by decide +kernel
theorem dX6_readEnd_29 : decode cX6_readEnd 29 = .ok (.aload_n 0, 1) := by decide +kernel
theorem dX6_readEnd_30 : decode cX6_readEnd 30 = .ok (.dup, 1) := by decide +kernel
theorem dX6_readEnd_31 : decode cX6_readEnd 31 = .ok (.getfield 32, 3) := by decide +kernel
theorem dX6_readEnd_34 : decode cX6_readEnd 34 = .ok (.iconst 1, 1) := by decide +kernel
theorem dX6_readEnd_35 : decode cX6_readEnd 35 = .ok (.iadd, 1) := by decide +kernel
theorem dX6_readEnd_36 : decode cX6_readEnd 36 = .ok (.putfield 32, 3) := by decide +kernel
theorem dX6_readEnd_39 : decode cX6_readEnd 39 = .ok (.return_, 1) := by decide +kernel
set_option maxRecDepth 20000 in
theorem ggX6_skipBlanks_X9_letterAt : GoodIn wsX6_skipBlanks wsX9_letterAt := goodIn_r _ [7, 8, 9, 16, 17] (by decide +kernel) (by decide +kernel)
set_option maxRecDepth 20000 in
theorem gX6_skipBlanks_X9_letterAt : GoodIn wsX6_skipBlanks (wsV RX6 50 RX9 yX9_letterAt wsX9_letterAt) := goodIn_app (goodIn_of _ (by decide +kernel)) ggX6_skipBlanks_X9_letterAt
theorem dX6_skipBlanks_0 : decode cX6_skipBlanks 0 = .ok (.iconst 0, 1) := by decide +kernel
theorem dX6_skipBlanks_1 : decode cX6_skipBlanks 1 = .ok (.istore_n 1, 1) := by decide +kernel
theorem dX6_skipBlanks_2 : decode cX6_skipBlanks 2 = .ok (.iload_n 1, 1) := by decide +kernel
theorem dX6_skipBlanks_3 : decode cX6_skipBlanks 3 = .ok (.sipush 240, 3) := by decide +kernel
theorem dX6_skipBlanks_6 : decode cX6_skipBlanks 6 = .ok (.if_icmp .ge 35, 3) := by decide +kernel
theorem dX6_skipBlanks_9 : decode cX6_skipBlanks 9 = .ok (.aload_n 0, 1) := by decide +kernel
theorem dX6_skipBlanks_10 : decode cX6_skipBlanks 10 = .ok (.getfield 22, 3) := by decide +kernel
theorem dX6_skipBlanks_13 : decode cX6_skipBlanks 13 = .ok (.aload_n 0, 1) := by decide +kernel
theorem dX6_skipBlanks_14 : decode cX6_skipBlanks 14 = .ok (.getfield 32, 3) := by decide +kernel
theorem dX6_skipBlanks_17 : decode cX6_skipBlanks 17 = .ok (.invokevirtual 50, 3) := by decide +kernel
theorem dX6_skipBlanks_20 : decode cX6_skipBlanks 20 = .ok (.bipush 32, 2) := by decide +kernel
theorem dX6_skipBlanks_22 : decode cX6_skipBlanks 22 = .ok (.if_icmp .ne 19, 3) := by decide +kernel
theorem dX6_skipBlanks_25 : decode cX6_skipBlanks 25 = .ok (.aload_n 0, 1) := by decide +kernel
theorem dX6_skipBlanks_26 : decode cX6_skipBlanks 26 = .ok (.dup, 1) := by decide +kernel
theorem dX6_skipBlanks_27 : decode cX6_skipBlanks 27 = .ok (.getfield 32, 3) := by decide +kernel
theorem dX6_skipBlanks_30 : decode cX6_skipBlanks 30 = .ok (.iconst 1, 1) := by decide +kernel
theorem dX6_skipBlanks_31 : decode cX6_skipBlanks 31 = .ok (.iadd, 1) := by decide +kernel
theorem dX6_skipBlanks_32 : decode cX6_skipBlanks 32 = .ok (.putfield 32, 3) := by decide +kernel
theorem dX6_skipBlanks_35 : decode cX6_skipBlanks 35 = .ok (.iinc 1 1, 3) := by decide +kernel
theorem dX6_skipBlanks_38 : decode cX6_skipBlanks 38 = .ok (.goto (-36), 3) := by decide +kernel
theorem dX6_skipBlanks_41 : decode cX6_skipBlanks 41 = .ok (.return_, 1) := by decide +kernel
theorem dX6_isFigure_0 : decode cX6_isFigure 0 = .ok (.iload_n 0, 1) := by decide +kernel
theorem dX6_isFigure_1 : decode cX6_isFigure 1 = .ok (.bipush 48, 2) := by decide +kernel
theorem dX6_isFigure_3 : decode cX6_isFigure 3 = .ok (.if_icmp .lt 13, 3) := by decide +kernel
theorem dX6_isFigure_6 : decode cX6_isFigure 6 = .ok (.iload_n 0, 1) := by decide +kernel
theorem dX6_isFigure_7 : decode cX6_isFigure 7 = .ok (.bipush 57, 2) := by decide +kernel
theorem dX6_isFigure_9 : decode cX6_isFigure 9 = .ok (.if_icmp .gt 7, 3) := by decide +kernel
theorem dX6_isFigure_12 : decode cX6_isFigure 12 = .ok (.iconst 1, 1) := by decide +kernel
theorem dX6_isFigure_13 : decode cX6_isFigure 13 = .ok (.goto 4, 3) := by decide +kernel
theorem dX6_isFigure_16 : decode cX6_isFigure 16 = .ok (.iconst 0, 1) := by decide +kernel
theorem dX6_isFigure_17 : decode cX6_isFigure 17 = .ok (.ireturn, 1) := by decide +kernel
theorem dX6_fail_0 : decode cX6_fail 0 = .ok (.aload_n 0, 1) := by decide +kernel
theorem dX6_fail_1 : decode cX6_fail 1 = .ok (.getfield 29, 3) := by decide +kernel
theorem dX6_fail_4 : decode cX6_fail 4 = .ok (.ifCond .ne 13, 3) := by decide +kernel
theorem dX6_fail_7 : decode cX6_fail 7 = .ok (.aload_n 0, 1) := by decide +kernel
theorem dX6_fail_8 : decode cX6_fail 8 = .ok (.iload_n 1, 1) := by decide +kernel
theorem dX6_fail_9 : decode cX6_fail 9 = .ok (.putfield 29, 3) := by decide +kernel
theorem dX6_fail_12 : decode cX6_fail 12 = .ok (.aload_n 0, 1) := by decide +kernel
theorem dX6_fail_13 : decode cX6_fail 13 = .ok (.iload_n 2, 1) := by decide +kernel
theorem dX6_fail_14 : decode cX6_fail 14 = .ok (.putfield 18, 3) := by decide +kernel
theorem dX6_fail_17 : decode cX6_fail 17 = .ok (.return_, 1) := by decide +kernel
theorem dX7_get_0 : decode cX7_get 0 = .ok (.iload_n 1, 1) := by decide +kernel
theorem dX7_get_1 : decode cX7_get 1 = .ok (.ifCond .lt 15, 3) := by decide +kernel
theorem dX7_get_4 : decode cX7_get 4 = .ok (.iload_n 1, 1) := by decide +kernel
theorem dX7_get_5 : decode cX7_get 5 = .ok (.aload_n 0, 1) := by decide +kernel
theorem dX7_get_6 : decode cX7_get 6 = .ok (.arraylength, 1) := by decide +kernel
theorem dX7_get_7 : decode cX7_get 7 = .ok (.if_icmp .ge 9, 3) := by decide +kernel
theorem dX7_get_10 : decode cX7_get 10 = .ok (.aload_n 0, 1) := by decide +kernel
theorem dX7_get_11 : decode cX7_get 11 = .ok (.iload_n 1, 1) := by decide +kernel
theorem dX7_get_12 : decode cX7_get 12 = .ok (.iaload, 1) := by decide +kernel
theorem dX7_get_13 : decode cX7_get 13 = .ok (.goto 4, 3) := by decide +kernel
theorem dX7_get_16 : decode cX7_get 16 = .ok (.iconst 0, 1) := by decide +kernel
theorem dX7_get_17 : decode cX7_get 17 = .ok (.ireturn, 1) := by decide +kernel
theorem dX7_put_0 : decode cX7_put 0 = .ok (.iload_n 1, 1) := by decide +kernel
theorem dX7_put_1 : decode cX7_put 1 = .ok (.ifCond .lt 13, 3) := by decide +kernel
theorem dX7_put_4 : decode cX7_put 4 = .ok (.iload_n 1, 1) := by decide +kernel
theorem dX7_put_5 : decode cX7_put 5 = .ok (.aload_n 0, 1) := by decide +kernel
theorem dX7_put_6 : decode cX7_put 6 = .ok (.arraylength, 1) := by decide +kernel
theorem dX7_put_7 : decode cX7_put 7 = .ok (.if_icmp .ge 7, 3) := by decide +kernel
theorem dX7_put_10 : decode cX7_put 10 = .ok (.aload_n 0, 1) := by decide +kernel
theorem dX7_put_11 : decode cX7_put 11 = .ok (.iload_n 1, 1) := by decide +kernel
theorem dX7_put_12 : decode cX7_put 12 = .ok (.iload_n 2, 1) := by decide +kernel
theorem dX7_put_13 : decode cX7_put 13 = .ok (.iastore, 1) := by decide +kernel
theorem dX7_put_14 : decode cX7_put 14 = .ok (.return_, 1) := by decide +kernel
set_option maxRecDepth 20000 in
theorem ggX7_copy_X7_get : GoodIn wsX7_copy wsX7_get := goodIn_r _ [4] (by decide +kernel) (by decide +kernel)
set_option maxRecDepth 20000 in
theorem gX7_copy_X7_get : GoodIn wsX7_copy (va_wsS RX7 7 yX7_get wsX7_get) := goodIn_app (goodIn_of _ (by decide +kernel)) ggX7_copy_X7_get
set_option maxRecDepth 20000 in
theorem ggX7_copy_X7_put : GoodIn wsX7_copy wsX7_put := goodIn_r _ [7] (by decide +kernel) (by decide +kernel)
set_option maxRecDepth 20000 in
theorem gX7_copy_X7_put : GoodIn wsX7_copy (va_wsS RX7 13 yX7_put wsX7_put) := goodIn_app (goodIn_of _ (by decide +kernel)) ggX7_copy_X7_put
theorem dX7_copy_0 : decode cX7_copy 0 = .ok (.iconst 0, 1) := by decide +kernel
theorem dX7_copy_1 : decode cX7_copy 1 = .ok (.istore 5, 2) := by decide +kernel
theorem dX7_copy_3 : decode cX7_copy 3 = .ok (.iload 5, 2) := by decide +kernel
theorem dX7_copy_5 : decode cX7_copy 5 = .ok (.iload 4, 2) := by decide +kernel
theorem dX7_copy_7 : decode cX7_copy 7 = .ok (.if_icmp .ge 25, 3) := by decide +kernel
theorem dX7_copy_10 : decode cX7_copy 10 = .ok (.aload_n 2, 1) := by decide +kernel
theorem dX7_copy_11 : decode cX7_copy 11 = .ok (.iload_n 3, 1) := by decide +kernel
theorem dX7_copy_12 : decode cX7_copy 12 = .ok (.iload 5, 2) := by decide +kernel
theorem dX7_copy_14 : decode cX7_copy 14 = .ok (.iadd, 1) := by decide +kernel
theorem dX7_copy_15 : decode cX7_copy 15 = .ok (.aload_n 0, 1) := by decide +kernel
theorem dX7_copy_16 : decode cX7_copy 16 = .ok (.iload_n 1, 1) := by decide +kernel
theorem dX7_copy_17 : decode cX7_copy 17 = .ok (.iload 5, 2) := by decide +kernel
theorem dX7_copy_19 : decode cX7_copy 19 = .ok (.iadd, 1) := by decide +kernel
theorem dX7_copy_20 : decode cX7_copy 20 = .ok (.invokestatic 7, 3) := by decide +kernel
theorem dX7_copy_23 : decode cX7_copy 23 = .ok (.invokestatic 13, 3) := by decide +kernel
theorem dX7_copy_26 : decode cX7_copy 26 = .ok (.iinc 5 1, 3) := by decide +kernel
theorem dX7_copy_29 : decode cX7_copy 29 = .ok (.goto (-26), 3) := by decide +kernel
theorem dX7_copy_32 : decode cX7_copy 32 = .ok (.return_, 1) := by decide +kernel
set_option maxRecDepth 20000 in
theorem ggX8_init_X8_forgetMornings : GoodIn wsX8_init wsX8_forgetMornings := goodIn_r _ [10, 11, 12, 13, 9, 14, 5, 15, 16, 17, 18, 19] (by decide +kernel) (by decide +kernel)
set_option maxRecDepth 20000 in
theorem gX8_init_X8_forgetMornings : GoodIn wsX8_init (wsV RX8 15 RX8 yX8_forgetMornings wsX8_forgetMornings) := goodIn_app (goodIn_of _ (by decide +kernel)) ggX8_init_X8_forgetMornings
theorem dX8_init_0 : decode cX8_init 0 = .ok (.aload_n 0, 1) := by decide +kernel
theorem dX8_init_1 : decode cX8_init 1 = .ok (.invokespecial 5, 3) := by decide +kernel
theorem dX8_init_4 : decode cX8_init 4 = .ok (.aload_n 0, 1) := by decide +kernel
theorem dX8_init_5 : decode cX8_init 5 = .ok (.bipush 28, 2) := by decide +kernel
theorem dX8_init_7 : decode cX8_init 7 = .ok (.newarray .int, 2) := by decide +kernel
theorem dX8_init_9 : decode cX8_init 9 = .ok (.putfield 11, 3) := by decide +kernel
theorem dX8_init_12 : decode cX8_init 12 = .ok (.aload_n 0, 1) := by decide +kernel
theorem dX8_init_13 : decode cX8_init 13 = .ok (.invokevirtual 15, 3) := by decide +kernel
theorem dX8_init_16 : decode cX8_init 16 = .ok (.return_, 1) := by decide +kernel
set_option maxRecDepth 20000 in
theorem ggX8_get_X7_get : GoodIn wsX8_get wsX7_get := goodIn_r _ [5] (by decide +kernel) (by decide +kernel)
set_option maxRecDepth 20000 in
theorem gX8_get_X7_get : GoodIn wsX8_get (va_wsS RX8 18 yX7_get wsX7_get) := goodIn_app (goodIn_of _ (by decide +kernel)) ggX8_get_X7_get
theorem dX8_get_0 : decode cX8_get 0 = .ok (.aload_n 0, 1) := by decide +kernel
theorem dX8_get_1 : decode cX8_get 1 = .ok (.getfield 11, 3) := by decide +kernel
theorem dX8_get_4 : decode cX8_get 4 = .ok (.iload_n 1, 1) := by decide +kernel
theorem dX8_get_5 : decode cX8_get 5 = .ok (.invokestatic 18, 3) := by decide +kernel
theorem dX8_get_8 : decode cX8_get 8 = .ok (.ireturn, 1) := by decide +kernel
set_option maxRecDepth 20000 in
theorem ggX8_put_X7_put : GoodIn wsX8_put wsX7_put := goodIn_r _ [5] (by decide +kernel) (by decide +kernel)
set_option maxRecDepth 20000 in
theorem gX8_put_X7_put : GoodIn wsX8_put (va_wsS RX8 24 yX7_put wsX7_put) := goodIn_app (goodIn_of _ (by decide +kernel)) ggX8_put_X7_put
theorem dX8_put_0 : decode cX8_put 0 = .ok (.aload_n 0, 1) := by decide +kernel
theorem dX8_put_1 : decode cX8_put 1 = .ok (.getfield 11, 3) := by decide +kernel
theorem dX8_put_4 : decode cX8_put 4 = .ok (.iload_n 1, 1) := by decide +kernel
theorem dX8_put_5 : decode cX8_put 5 = .ok (.iload_n 2, 1) := by decide +kernel
theorem dX8_put_6 : decode cX8_put 6 = .ok (.invokestatic 24, 3) := by decide +kernel
theorem dX8_put_9 : decode cX8_put 9 = .ok (.return_, 1) := by decide +kernel
set_option maxRecDepth 20000 in
theorem ggX8_take_X7_copy : GoodIn wsX8_take wsX7_copy := goodIn_r _ [5, 6, 7, 4, 8, 9, 10, 11] (by decide +kernel) (by decide +kernel)
set_option maxRecDepth 20000 in
theorem gX8_take_X7_copy : GoodIn wsX8_take (va_wsS RX8 28 yX7_copy wsX7_copy) := goodIn_app (goodIn_of _ (by decide +kernel)) ggX8_take_X7_copy
theorem dX8_take_0 : decode cX8_take 0 = .ok (.aload_n 1, 1) := by decide +kernel
theorem dX8_take_1 : decode cX8_take 1 = .ok (.getfield 11, 3) := by decide +kernel
theorem dX8_take_4 : decode cX8_take 4 = .ok (.iconst 0, 1) := by decide +kernel
theorem dX8_take_5 : decode cX8_take 5 = .ok (.aload_n 0, 1) := by decide +kernel
theorem dX8_take_6 : decode cX8_take 6 = .ok (.getfield 11, 3) := by decide +kernel
theorem dX8_take_9 : decode cX8_take 9 = .ok (.iconst 0, 1) := by decide +kernel
theorem dX8_take_10 : decode cX8_take 10 = .ok (.bipush 28, 2) := by decide +kernel
theorem dX8_take_12 : decode cX8_take 12 = .ok (.invokestatic 28, 3) := by decide +kernel
theorem dX8_take_15 : decode cX8_take 15 = .ok (.return_, 1) := by decide +kernel
set_option maxRecDepth 20000 in
theorem ggX8_begin_X8_forgetMornings : GoodIn wsX8_begin wsX8_forgetMornings := goodIn_r _ [9, 10, 11, 12, 8, 13, 3, 14, 15, 16, 17, 35] (by decide +kernel) (by decide +kernel)
set_option maxRecDepth 20000 in
theorem gX8_begin_X8_forgetMornings : GoodIn wsX8_begin (wsV RX8 15 RX8 yX8_forgetMornings wsX8_forgetMornings) := goodIn_app (goodIn_of _ (by decide +kernel)) ggX8_begin_X8_forgetMornings
set_option maxRecDepth 20000 in
theorem ggX8_begin_X8_put : GoodIn wsX8_begin wsX8_put := goodIn_r _ [13, 3, 14, 15, 16, 17, 35] (by decide +kernel) (by decide +kernel)
set_option maxRecDepth 20000 in
theorem gX8_begin_X8_put : GoodIn wsX8_begin (wsV RX8 38 RX8 yX8_put wsX8_put) := goodIn_app (goodIn_of _ (by decide +kernel)) ggX8_begin_X8_put
set_option maxRecDepth 20000 in
theorem ggX8_begin_X7_copy : GoodIn wsX8_begin wsX7_copy := goodIn_r _ [20, 21, 22, 16, 23, 24, 15, 17] (by decide +kernel) (by decide +kernel)
set_option maxRecDepth 20000 in
theorem gX8_begin_X7_copy : GoodIn wsX8_begin (va_wsS RX8 28 yX7_copy wsX7_copy) := goodIn_app (goodIn_of _ (by decide +kernel)) ggX8_begin_X7_copy
theorem dX8_begin_0 : decode cX8_begin 0 = .ok (.aload_n 0, 1) := by decide +kernel
theorem dX8_begin_1 : decode cX8_begin 1 = .ok (.invokevirtual 15, 3) := by decide +kernel
theorem dX8_begin_4 : decode cX8_begin 4 = .ok (.aload_n 0, 1) := by decide +kernel
theorem dX8_begin_5 : decode cX8_begin 5 = .ok (.iconst 0, 1) := by decide +kernel
theorem dX8_begin_6 : decode cX8_begin 6 = .ok (.aload_n 1, 1) := by decide +kernel
theorem dX8_begin_7 : decode cX8_begin 7 = .ok (.getfield 32, 3) := by decide +kernel
theorem dX8_begin_10 : decode cX8_begin 10 = .ok (.invokevirtual 38, 3) := by decide +kernel
theorem dX8_begin_13 : decode cX8_begin 13 = .ok (.aload_n 1, 1) := by decide +kernel
theorem dX8_begin_14 : decode cX8_begin 14 = .ok (.getfield 41, 3) := by decide +kernel
theorem dX8_begin_17 : decode cX8_begin 17 = .ok (.iconst 0, 1) := by decide +kernel
theorem dX8_begin_18 : decode cX8_begin 18 = .ok (.aload_n 0, 1) := by decide +kernel
theorem dX8_begin_19 : decode cX8_begin 19 = .ok (.getfield 11, 3) := by decide +kernel
theorem dX8_begin_22 : decode cX8_begin 22 = .ok (.bipush 6, 2) := by decide +kernel
theorem dX8_begin_24 : decode cX8_begin 24 = .ok (.bipush 8, 2) := by decide +kernel
theorem dX8_begin_26 : decode cX8_begin 26 = .ok (.invokestatic 28, 3) := by decide +kernel
theorem dX8_begin_29 : decode cX8_begin 29 = .ok (.aload_n 1, 1) := by decide +kernel
theorem dX8_begin_30 : decode cX8_begin 30 = .ok (.getfield 44, 3) := by decide +kernel
theorem dX8_begin_33 : decode cX8_begin 33 = .ok (.iconst 0, 1) := by decide +kernel
theorem dX8_begin_34 : decode cX8_begin 34 = .ok (.aload_n 0, 1) := by decide +kernel
theorem dX8_begin_35 : decode cX8_begin 35 = .ok (.getfield 11, 3) := by decide +kernel
theorem dX8_begin_38 : decode cX8_begin 38 = .ok (.bipush 14, 2) := by decide +kernel
theorem dX8_begin_40 : decode cX8_begin 40 = .ok (.bipush 7, 2) := by decide +kernel
theorem dX8_begin_42 : decode cX8_begin 42 = .ok (.invokestatic 28, 3) := by decide +kernel
theorem dX8_begin_45 : decode cX8_begin 45 = .ok (.return_, 1) := by decide +kernel
set_option maxRecDepth 20000 in
theorem ggX8_forgetMornings_X8_put : GoodIn wsX8_forgetMornings wsX8_put := goodIn_r _ [5, 6, 7, 8, 9, 10, 11] (by decide +kernel) (by decide +kernel)
set_option maxRecDepth 20000 in
theorem gX8_forgetMornings_X8_put : GoodIn wsX8_forgetMornings (wsV RX8 38 RX8 yX8_put wsX8_put) := goodIn_app (goodIn_of _ (by decide +kernel)) ggX8_forgetMornings_X8_put
theorem dX8_forgetMornings_0 : decode cX8_forgetMornings 0 = .ok (.aload_n 0, 1) := by decide +kernel
theorem dX8_forgetMornings_1 : decode cX8_forgetMornings 1 = .ok (.iconst 1, 1) := by decide +kernel
theorem dX8_forgetMornings_2 : decode cX8_forgetMornings 2 = .ok (.iconst 0, 1) := by decide +kernel
theorem dX8_forgetMornings_3 : decode cX8_forgetMornings 3 = .ok (.invokevirtual 38, 3) := by decide +kernel
theorem dX8_forgetMornings_6 : decode cX8_forgetMornings 6 = .ok (.aload_n 0, 1) := by decide +kernel
theorem dX8_forgetMornings_7 : decode cX8_forgetMornings 7 = .ok (.iconst 2, 1) := by decide +kernel
theorem dX8_forgetMornings_8 : decode cX8_forgetMornings 8 = .ok (.iconst (-1), 1) := by decide +kernel
theorem dX8_forgetMornings_9 : decode cX8_forgetMornings 9 = .ok (.invokevirtual 38, 3) := by decide +kernel
theorem dX8_forgetMornings_12 : decode cX8_forgetMornings 12 = .ok (.aload_n 0, 1) := by decide +kernel
theorem dX8_forgetMornings_13 : decode cX8_forgetMornings 13 = .ok (.iconst 3, 1) := by decide +kernel
theorem dX8_forgetMornings_14 : decode cX8_forgetMornings 14 = .ok (.iconst (-1), 1) := by decide +kernel
theorem dX8_forgetMornings_15 : decode cX8_forgetMornings 15 = .ok (.invokevirtual 38, 3) := by decide +kernel
theorem dX8_forgetMornings_18 : decode cX8_forgetMornings 18 = .ok (.aload_n 0, 1) := by decide +kernel
theorem dX8_forgetMornings_19 : decode cX8_forgetMornings 19 = .ok (.iconst 4, 1) := by decide +kernel
theorem dX8_forgetMornings_20 : decode cX8_forgetMornings 20 = .ok (.iconst 0, 1) := by decide +kernel
theorem dX8_forgetMornings_21 : decode cX8_forgetMornings 21 = .ok (.invokevirtual 38, 3) := by decide +kernel
theorem dX8_forgetMornings_24 : decode cX8_forgetMornings 24 = .ok (.aload_n 0, 1) := by decide +kernel
theorem dX8_forgetMornings_25 : decode cX8_forgetMornings 25 = .ok (.iconst 5, 1) := by decide +kernel
theorem dX8_forgetMornings_26 : decode cX8_forgetMornings 26 = .ok (.iconst 0, 1) := by decide +kernel
theorem dX8_forgetMornings_27 : decode cX8_forgetMornings 27 = .ok (.invokevirtual 38, 3) := by decide +kernel
theorem dX8_forgetMornings_30 : decode cX8_forgetMornings 30 = .ok (.iconst 0, 1) := by decide +kernel
theorem dX8_forgetMornings_31 : decode cX8_forgetMornings 31 = .ok (.istore_n 1, 1) := by decide +kernel
theorem dX8_forgetMornings_32 : decode cX8_forgetMornings 32 = .ok (.iload_n 1, 1) := by decide +kernel
theorem dX8_forgetMornings_33 : decode cX8_forgetMornings 33 = .ok (.bipush 7, 2) := by decide +kernel
theorem dX8_forgetMornings_35 : decode cX8_forgetMornings 35 = .ok (.if_icmp .ge 18, 3) := by decide +kernel
theorem dX8_forgetMornings_38 : decode cX8_forgetMornings 38 = .ok (.aload_n 0, 1) := by decide +kernel
theorem dX8_forgetMornings_39 : decode cX8_forgetMornings 39 = .ok (.bipush 21, 2) := by decide +kernel
theorem dX8_forgetMornings_41 : decode cX8_forgetMornings 41 = .ok (.iload_n 1, 1) := by decide +kernel
theorem dX8_forgetMornings_42 : decode cX8_forgetMornings 42 = .ok (.iadd, 1) := by decide +kernel
theorem dX8_forgetMornings_43 : decode cX8_forgetMornings 43 = .ok (.iconst (-1), 1) := by decide +kernel
theorem dX8_forgetMornings_44 : decode cX8_forgetMornings 44 = .ok (.invokevirtual 38, 3) := by decide +kernel
theorem dX8_forgetMornings_47 : decode cX8_forgetMornings 47 = .ok (.iinc 1 1, 3) := by decide +kernel
theorem dX8_forgetMornings_50 : decode cX8_forgetMornings 50 = .ok (.goto (-18), 3) := by decide +kernel
theorem dX8_forgetMornings_53 : decode cX8_forgetMornings 53 = .ok (.return_, 1) := by decide +kernel
theorem dX9_init_0 : decode cX9_init 0 = .ok (.aload_n 0, 1) := by decide +kernel
theorem dX9_init_1 : decode cX9_init 1 = .ok (.invokespecial 3, 3) := by decide +kernel
theorem dX9_init_4 : decode cX9_init 4 = .ok (.aload_n 0, 1) := by decide +kernel
theorem dX9_init_5 : decode cX9_init 5 = .ok (.sipush 240, 3) := by decide +kernel
theorem dX9_init_8 : decode cX9_init 8 = .ok (.newarray .int, 2) := by decide +kernel
theorem dX9_init_10 : decode cX9_init 10 = .ok (.putfield 9, 3) := by decide +kernel
theorem dX9_init_13 : decode cX9_init 13 = .ok (.return_, 1) := by decide +kernel
set_option maxRecDepth 20000 in
theorem ggX9_add_X7_put : GoodIn wsX9_add wsX7_put := goodIn_r _ [6] (by decide +kernel) (by decide +kernel)
set_option maxRecDepth 20000 in
theorem gX9_add_X7_put : GoodIn wsX9_add (va_wsS RX9 19 yX7_put wsX7_put) := goodIn_app (goodIn_of _ (by decide +kernel)) ggX9_add_X7_put
theorem dX9_add_0 : decode cX9_add 0 = .ok (.aload_n 0, 1) := by decide +kernel
theorem dX9_add_1 : decode cX9_add 1 = .ok (.getfield 15, 3) := by decide +kernel
theorem dX9_add_4 : decode cX9_add 4 = .ok (.sipush 240, 3) := by decide +kernel
theorem dX9_add_7 : decode cX9_add 7 = .ok (.if_icmp .lt 5, 3) := by decide +kernel
theorem dX9_add_10 : decode cX9_add 10 = .ok (.iconst 0, 1) := by decide +kernel
theorem dX9_add_11 : decode cX9_add 11 = .ok (.ireturn, 1) := by decide +kernel
theorem dX9_add_12 : decode cX9_add 12 = .ok (.aload_n 0, 1) := by decide +kernel
theorem dX9_add_13 : decode cX9_add 13 = .ok (.getfield 9, 3) := by decide +kernel
theorem dX9_add_16 : decode cX9_add 16 = .ok (.aload_n 0, 1) := by decide +kernel
theorem dX9_add_17 : decode cX9_add 17 = .ok (.getfield 15, 3) := by decide +kernel
theorem dX9_add_20 : decode cX9_add 20 = .ok (.iload_n 1, 1) := by decide +kernel
theorem dX9_add_21 : decode cX9_add 21 = .ok (.invokestatic 19, 3) := by decide +kernel
theorem dX9_add_24 : decode cX9_add 24 = .ok (.aload_n 0, 1) := by decide +kernel
theorem dX9_add_25 : decode cX9_add 25 = .ok (.dup, 1) := by decide +kernel
theorem dX9_add_26 : decode cX9_add 26 = .ok (.getfield 15, 3) := by decide +kernel
theorem dX9_add_29 : decode cX9_add 29 = .ok (.iconst 1, 1) := by decide +kernel
theorem dX9_add_30 : decode cX9_add 30 = .ok (.iadd, 1) := by decide +kernel
theorem dX9_add_31 : decode cX9_add 31 = .ok (.putfield 15, 3) := by decide +kernel
theorem dX9_add_34 : decode cX9_add 34 = .ok (.iconst 1, 1) := by decide +kernel
theorem dX9_add_35 : decode cX9_add 35 = .ok (.ireturn, 1) := by decide +kernel
theorem dX9_letterAt_0 : decode cX9_letterAt 0 = .ok (.iload_n 1, 1) := by decide +kernel
theorem dX9_letterAt_1 : decode cX9_letterAt 1 = .ok (.ifCond .lt 29, 3) := by decide +kernel
theorem dX9_letterAt_4 : decode cX9_letterAt 4 = .ok (.iload_n 1, 1) := by decide +kernel
theorem dX9_letterAt_5 : decode cX9_letterAt 5 = .ok (.aload_n 0, 1) := by decide +kernel
theorem dX9_letterAt_6 : decode cX9_letterAt 6 = .ok (.getfield 15, 3) := by decide +kernel
theorem dX9_letterAt_9 : decode cX9_letterAt 9 = .ok (.if_icmp .ge 21, 3) := by decide +kernel
theorem dX9_letterAt_12 : decode cX9_letterAt 12 = .ok (.iload_n 1, 1) := by decide +kernel
theorem dX9_letterAt_13 : decode cX9_letterAt 13 = .ok (.aload_n 0, 1) := by decide +kernel
theorem dX9_letterAt_14 : decode cX9_letterAt 14 = .ok (.getfield 9, 3) := by decide +kernel
theorem dX9_letterAt_17 : decode cX9_letterAt 17 = .ok (.arraylength, 1) := by decide +kernel
theorem dX9_letterAt_18 : decode cX9_letterAt 18 = .ok (.if_icmp .ge 12, 3) := by decide +kernel
theorem dX9_letterAt_21 : decode cX9_letterAt 21 = .ok (.aload_n 0, 1) := by decide +kernel
theorem dX9_letterAt_22 : decode cX9_letterAt 22 = .ok (.getfield 9, 3) := by decide +kernel
theorem dX9_letterAt_25 : decode cX9_letterAt 25 = .ok (.iload_n 1, 1) := by decide +kernel
theorem dX9_letterAt_26 : decode cX9_letterAt 26 = .ok (.iaload, 1) := by decide +kernel
theorem dX9_letterAt_27 : decode cX9_letterAt 27 = .ok (.goto 4, 3) := by decide +kernel
theorem dX9_letterAt_30 : decode cX9_letterAt 30 = .ok (.iconst (-1), 1) := by decide +kernel
theorem dX9_letterAt_31 : decode cX9_letterAt 31 = .ok (.ireturn, 1) := by decide +kernel
theorem dX10_init_0 : decode cX10_init 0 = .ok (.aload_n 0, 1) := by decide +kernel
theorem dX10_init_1 : decode cX10_init 1 = .ok (.invokespecial 3, 3) := by decide +kernel
theorem dX10_init_4 : decode cX10_init 4 = .ok (.aload_n 0, 1) := by decide +kernel
theorem dX10_init_5 : decode cX10_init 5 = .ok (.bipush 9, 2) := by decide +kernel
theorem dX10_init_7 : decode cX10_init 7 = .ok (.newarray .int, 2) := by decide +kernel
theorem dX10_init_9 : decode cX10_init 9 = .ok (.putfield 9, 3) := by decide +kernel
theorem dX10_init_12 : decode cX10_init 12 = .ok (.aload_n 0, 1) := by decide +kernel
theorem dX10_init_13 : decode cX10_init 13 = .ok (.aload_n 1, 1) := by decide +kernel
theorem dX10_init_14 : decode cX10_init 14 = .ok (.putfield 15, 3) := by decide +kernel
theorem dX10_init_17 : decode cX10_init 17 = .ok (.aload_n 0, 1) := by decide +kernel
theorem dX10_init_18 : decode cX10_init 18 = .ok (.aload_n 2, 1) := by decide +kernel
theorem dX10_init_19 : decode cX10_init 19 = .ok (.putfield 19, 3) := by decide +kernel
theorem dX10_init_22 : decode cX10_init 22 = .ok (.aload_n 0, 1) := by decide +kernel
theorem dX10_init_23 : decode cX10_init 23 = .ok (.aload_n 3, 1) := by decide +kernel
theorem dX10_init_24 : decode cX10_init 24 = .ok (.putfield 23, 3) := by decide +kernel
theorem dX10_init_27 : decode cX10_init 27 = .ok (.return_, 1) := by decide +kernel
set_option maxRecDepth 20000 in
theorem ggX10_listeners_X5_places : GoodIn wsX10_listeners wsX5_places := goodIn_r _ [7, 8, 33, 34, 35, 36, 37, 38, 39, 40, 41, 42] (by decide +kernel) (by decide +kernel)
set_option maxRecDepth 20000 in
theorem gX10_listeners_X5_places : GoodIn wsX10_listeners (wsV RX10 27 RX5 yX5_places wsX5_places) := goodIn_app (goodIn_of _ (by decide +kernel)) ggX10_listeners_X5_places
set_option maxRecDepth 20000 in
theorem ggX10_listeners_X2_loudness : GoodIn wsX10_listeners wsX2_loudness := goodIn_r _ [13, 14, 15, 16, 17, 18, 19, 20, 21, 22, 23, 24, 25, 26, 27, 28, 43, 44, 33, 34, 35, 36, 37, 38, 39, 40, 41, 42, 45] (by decide +kernel) (by decide +kernel)
set_option maxRecDepth 20000 in
theorem gX10_listeners_X2_loudness : GoodIn wsX10_listeners (wsV RX10 33 RX2 yX2_loudness wsX2_loudness) := goodIn_app (goodIn_of _ (by decide +kernel)) ggX10_listeners_X2_loudness
theorem dX10_listeners_0 : decode cX10_listeners 0 = .ok (.iconst 0, 1) := by decide +kernel
theorem dX10_listeners_1 : decode cX10_listeners 1 = .ok (.istore 4, 2) := by decide +kernel
theorem dX10_listeners_3 : decode cX10_listeners 3 = .ok (.iconst 0, 1) := by decide +kernel
theorem dX10_listeners_4 : decode cX10_listeners 4 = .ok (.istore 5, 2) := by decide +kernel
theorem dX10_listeners_6 : decode cX10_listeners 6 = .ok (.iload 5, 2) := by decide +kernel
theorem dX10_listeners_8 : decode cX10_listeners 8 = .ok (.aload_n 0, 1) := by decide +kernel
theorem dX10_listeners_9 : decode cX10_listeners 9 = .ok (.getfield 15, 3) := by decide +kernel
theorem dX10_listeners_12 : decode cX10_listeners 12 = .ok (.invokevirtual 27, 3) := by decide +kernel
theorem dX10_listeners_15 : decode cX10_listeners 15 = .ok (.if_icmp .ge 33, 3) := by decide +kernel
theorem dX10_listeners_18 : decode cX10_listeners 18 = .ok (.aload_n 0, 1) := by decide +kernel
theorem dX10_listeners_19 : decode cX10_listeners 19 = .ok (.getfield 23, 3) := by decide +kernel
theorem dX10_listeners_22 : decode cX10_listeners 22 = .ok (.iload_n 1, 1) := by decide +kernel
theorem dX10_listeners_23 : decode cX10_listeners 23 = .ok (.iload_n 2, 1) := by decide +kernel
theorem dX10_listeners_24 : decode cX10_listeners 24 = .ok (.iload 5, 2) := by decide +kernel
theorem dX10_listeners_26 : decode cX10_listeners 26 = .ok (.invokevirtual 33, 3) := by decide +kernel
theorem dX10_listeners_29 : decode cX10_listeners 29 = .ok (.iload_n 3, 1) := by decide +kernel
theorem dX10_listeners_30 : decode cX10_listeners 30 = .ok (.if_icmp .lt 12, 3) := by decide +kernel
theorem dX10_listeners_33 : decode cX10_listeners 33 = .ok (.iload 4, 2) := by decide +kernel
theorem dX10_listeners_35 : decode cX10_listeners 35 = .ok (.iconst 1, 1) := by decide +kernel
theorem dX10_listeners_36 : decode cX10_listeners 36 = .ok (.iload 5, 2) := by decide +kernel
theorem dX10_listeners_38 : decode cX10_listeners 38 = .ok (.ishl, 1) := by decide +kernel
theorem dX10_listeners_39 : decode cX10_listeners 39 = .ok (.ior, 1) := by decide +kernel
theorem dX10_listeners_40 : decode cX10_listeners 40 = .ok (.istore 4, 2) := by decide +kernel
theorem dX10_listeners_42 : decode cX10_listeners 42 = .ok (.iinc 5 1, 3) := by decide +kernel
theorem dX10_listeners_45 : decode cX10_listeners 45 = .ok (.goto (-39), 3) := by decide +kernel
theorem dX10_listeners_48 : decode cX10_listeners 48 = .ok (.iload 4, 2) := by decide +kernel
theorem dX10_listeners_50 : decode cX10_listeners 50 = .ok (.ireturn, 1) := by decide +kernel
set_option maxRecDepth 20000 in
theorem ggX10_unheard_X5_places : GoodIn wsX10_unheard wsX5_places := goodIn_r _ [7, 8, 43, 44, 45, 46, 47, 48, 49, 50, 51, 52] (by decide +kernel) (by decide +kernel)
set_option maxRecDepth 20000 in
theorem gX10_unheard_X5_places : GoodIn wsX10_unheard (wsV RX10 27 RX5 yX5_places wsX5_places) := goodIn_app (goodIn_of _ (by decide +kernel)) ggX10_unheard_X5_places
set_option maxRecDepth 20000 in
theorem ggX10_unheard_X2_hearers : GoodIn wsX10_unheard wsX2_hearers := goodIn_r _ [13, 14, 15, 16, 17, 18, 12, 19, 20, 21, 22, 23, 24, 25, 26, 27, 28, 29, 30, 31, 32, 33, 34, 35, 36, 37, 38, 53, 54, 43, 44, 45, 46, 47, 48, 49, 50, 51, 52, 55] (by decide +kernel) (by decide +kernel)
set_option maxRecDepth 20000 in
theorem gX10_unheard_X2_hearers : GoodIn wsX10_unheard (wsV RX10 39 RX2 yX2_hearers wsX2_hearers) := goodIn_app (goodIn_of _ (by decide +kernel)) ggX10_unheard_X2_hearers
theorem dX10_unheard_0 : decode cX10_unheard 0 = .ok (.iconst 0, 1) := by decide +kernel
theorem dX10_unheard_1 : decode cX10_unheard 1 = .ok (.istore_n 2, 1) := by decide +kernel
theorem dX10_unheard_2 : decode cX10_unheard 2 = .ok (.iconst 0, 1) := by decide +kernel
theorem dX10_unheard_3 : decode cX10_unheard 3 = .ok (.istore_n 3, 1) := by decide +kernel
theorem dX10_unheard_4 : decode cX10_unheard 4 = .ok (.iload_n 3, 1) := by decide +kernel
theorem dX10_unheard_5 : decode cX10_unheard 5 = .ok (.aload_n 0, 1) := by decide +kernel
theorem dX10_unheard_6 : decode cX10_unheard 6 = .ok (.getfield 15, 3) := by decide +kernel
theorem dX10_unheard_9 : decode cX10_unheard 9 = .ok (.invokevirtual 27, 3) := by decide +kernel
theorem dX10_unheard_12 : decode cX10_unheard 12 = .ok (.if_icmp .ge 28, 3) := by decide +kernel
theorem dX10_unheard_15 : decode cX10_unheard 15 = .ok (.aload_n 0, 1) := by decide +kernel
theorem dX10_unheard_16 : decode cX10_unheard 16 = .ok (.getfield 23, 3) := by decide +kernel
theorem dX10_unheard_19 : decode cX10_unheard 19 = .ok (.iload_n 1, 1) := by decide +kernel
theorem dX10_unheard_20 : decode cX10_unheard 20 = .ok (.iload_n 3, 1) := by decide +kernel
theorem dX10_unheard_21 : decode cX10_unheard 21 = .ok (.iconst 0, 1) := by decide +kernel
theorem dX10_unheard_22 : decode cX10_unheard 22 = .ok (.invokevirtual 39, 3) := by decide +kernel
theorem dX10_unheard_25 : decode cX10_unheard 25 = .ok (.ifCond .ne 9, 3) := by decide +kernel
theorem dX10_unheard_28 : decode cX10_unheard 28 = .ok (.iload_n 2, 1) := by decide +kernel
theorem dX10_unheard_29 : decode cX10_unheard 29 = .ok (.iconst 1, 1) := by decide +kernel
theorem dX10_unheard_30 : decode cX10_unheard 30 = .ok (.iload_n 3, 1) := by decide +kernel
theorem dX10_unheard_31 : decode cX10_unheard 31 = .ok (.ishl, 1) := by decide +kernel
theorem dX10_unheard_32 : decode cX10_unheard 32 = .ok (.ior, 1) := by decide +kernel
theorem dX10_unheard_33 : decode cX10_unheard 33 = .ok (.istore_n 2, 1) := by decide +kernel
theorem dX10_unheard_34 : decode cX10_unheard 34 = .ok (.iinc 3 1, 3) := by decide +kernel
theorem dX10_unheard_37 : decode cX10_unheard 37 = .ok (.goto (-33), 3) := by decide +kernel
theorem dX10_unheard_40 : decode cX10_unheard 40 = .ok (.iload_n 2, 1) := by decide +kernel
theorem dX10_unheard_41 : decode cX10_unheard 41 = .ok (.ireturn, 1) := by decide +kernel
set_option maxRecDepth 20000 in
theorem ggX10_fewestEars_X5_places : GoodIn wsX10_fewestEars wsX5_places := goodIn_r _ [7, 8, 54, 55, 56, 57, 58, 59, 60, 61, 62, 63] (by decide +kernel) (by decide +kernel)
set_option maxRecDepth 20000 in
theorem gX10_fewestEars_X5_places : GoodIn wsX10_fewestEars (wsV RX10 27 RX5 yX5_places wsX5_places) := goodIn_app (goodIn_of _ (by decide +kernel)) ggX10_fewestEars_X5_places
set_option maxRecDepth 20000 in
theorem ggX10_fewestEars_X10_listeners : GoodIn wsX10_fewestEars wsX10_listeners := goodIn_r _ [13, 1, 14, 3, 4, 5, 6, 7, 8, 15, 16, 17, 18, 19, 20, 21, 22, 23, 24, 25, 26, 27, 28, 29, 30, 31, 32, 33, 34, 50, 51, 52, 53, 54, 55, 56, 57, 58, 59, 60, 61, 62, 63, 64, 65, 66] (by decide +kernel) (by decide +kernel)
set_option maxRecDepth 20000 in
theorem gX10_fewestEars_X10_listeners : GoodIn wsX10_fewestEars (wsV RX10 42 RX10 yX10_listeners wsX10_listeners) := goodIn_app (goodIn_of _ (by decide +kernel)) ggX10_fewestEars_X10_listeners
set_option maxRecDepth 20000 in
theorem ggX10_fewestEars_X7_put : GoodIn wsX10_fewestEars wsX7_put := goodIn_r _ [37] (by decide +kernel) (by decide +kernel)
set_option maxRecDepth 20000 in
theorem gX10_fewestEars_X7_put : GoodIn wsX10_fewestEars (va_wsS RX10 45 yX7_put wsX7_put) := goodIn_app (goodIn_of _ (by decide +kernel)) ggX10_fewestEars_X7_put
set_option maxRecDepth 20000 in
theorem ggX10_fewestEars_J6_bitCount_0f7a4 : GoodIn wsX10_fewestEars wsJ6_bitCount_0f7a4 := goodIn_r _ [41, 42, 43, 44] (by decide +kernel) (by decide +kernel)
set_option maxRecDepth 20000 in
theorem gX10_fewestEars_J6_bitCount_0f7a4 : GoodIn wsX10_fewestEars (va_wsS RX10 51 yJ6_bitCount_0f7a4 wsJ6_bitCount_0f7a4) := goodIn_app (goodIn_of _ (by decide +kernel)) ggX10_fewestEars_J6_bitCount_0f7a4
set_option maxRecDepth 20000 in
theorem ggX10_fewestEars_X10_coverAll : GoodIn wsX10_fewestEars wsX10_coverAll := goodIn_r _ [48, 1, 2, 3, 4, 5, 6, 7, 8, 49, 32, 33, 34, 50, 51, 52, 53, 54, 55, 56, 57, 58, 59, 60, 61, 62, 63] (by decide +kernel) (by decide +kernel)
set_option maxRecDepth 20000 in
theorem gX10_fewestEars_X10_coverAll : GoodIn wsX10_fewestEars (wsV RX10 57 RX10 yX10_coverAll wsX10_coverAll) := goodIn_app (goodIn_of _ (by decide +kernel)) ggX10_fewestEars_X10_coverAll
theorem dX10_fewestEars_0 : decode cX10_fewestEars 0 = .ok (.iconst 0, 1) := by decide +kernel
theorem dX10_fewestEars_1 : decode cX10_fewestEars 1 = .ok (.istore 4, 2) := by decide +kernel
theorem dX10_fewestEars_3 : decode cX10_fewestEars 3 = .ok (.iload 4, 2) := by decide +kernel
theorem dX10_fewestEars_5 : decode cX10_fewestEars 5 = .ok (.aload_n 0, 1) := by decide +kernel
theorem dX10_fewestEars_6 : decode cX10_fewestEars 6 = .ok (.getfield 15, 3) := by decide +kernel
theorem dX10_fewestEars_9 : decode cX10_fewestEars 9 = .ok (.invokevirtual 27, 3) := by decide +kernel
theorem dX10_fewestEars_12 : decode cX10_fewestEars 12 = .ok (.if_icmp .ge 26, 3) := by decide +kernel
theorem dX10_fewestEars_15 : decode cX10_fewestEars 15 = .ok (.aload_n 0, 1) := by decide +kernel
theorem dX10_fewestEars_16 : decode cX10_fewestEars 16 = .ok (.getfield 9, 3) := by decide +kernel
theorem dX10_fewestEars_19 : decode cX10_fewestEars 19 = .ok (.iload 4, 2) := by decide +kernel
theorem dX10_fewestEars_21 : decode cX10_fewestEars 21 = .ok (.aload_n 0, 1) := by decide +kernel
theorem dX10_fewestEars_22 : decode cX10_fewestEars 22 = .ok (.iload_n 1, 1) := by decide +kernel
theorem dX10_fewestEars_23 : decode cX10_fewestEars 23 = .ok (.iload 4, 2) := by decide +kernel
theorem dX10_fewestEars_25 : decode cX10_fewestEars 25 = .ok (.iload_n 3, 1) := by decide +kernel
theorem dX10_fewestEars_26 : decode cX10_fewestEars 26 = .ok (.invokevirtual 42, 3) := by decide +kernel
theorem dX10_fewestEars_29 : decode cX10_fewestEars 29 = .ok (.invokestatic 45, 3) := by decide +kernel
theorem dX10_fewestEars_32 : decode cX10_fewestEars 32 = .ok (.iinc 4 1, 3) := by decide +kernel
theorem dX10_fewestEars_35 : decode cX10_fewestEars 35 = .ok (.goto (-32), 3) := by decide +kernel
theorem dX10_fewestEars_38 : decode cX10_fewestEars 38 = .ok (.iconst (-1), 1) := by decide +kernel
theorem dX10_fewestEars_39 : decode cX10_fewestEars 39 = .ok (.istore 4, 2) := by decide +kernel
theorem dX10_fewestEars_41 : decode cX10_fewestEars 41 = .ok (.iconst 0, 1) := by decide +kernel
theorem dX10_fewestEars_42 : decode cX10_fewestEars 42 = .ok (.istore 5, 2) := by decide +kernel
theorem dX10_fewestEars_44 : decode cX10_fewestEars 44 = .ok (.iload 5, 2) := by decide +kernel
theorem dX10_fewestEars_46 : decode cX10_fewestEars 46 = .ok (.iconst 1, 1) := by decide +kernel
theorem dX10_fewestEars_47 : decode cX10_fewestEars 47 = .ok (.aload_n 0, 1) := by decide +kernel
theorem dX10_fewestEars_48 : decode cX10_fewestEars 48 = .ok (.getfield 15, 3) := by decide +kernel
theorem dX10_fewestEars_51 : decode cX10_fewestEars 51 = .ok (.invokevirtual 27, 3) := by decide +kernel
theorem dX10_fewestEars_54 : decode cX10_fewestEars 54 = .ok (.ishl, 1) := by decide +kernel
theorem dX10_fewestEars_55 : decode cX10_fewestEars 55 = .ok (.if_icmp .ge 54, 3) := by decide +kernel
theorem dX10_fewestEars_58 : decode cX10_fewestEars 58 = .ok (.iload 4, 2) := by decide +kernel
theorem dX10_fewestEars_60 : decode cX10_fewestEars 60 = .ok (.iconst (-1), 1) := by decide +kernel
theorem dX10_fewestEars_61 : decode cX10_fewestEars 61 = .ok (.if_icmp .eq 16, 3) := by decide +kernel
theorem dX10_fewestEars_64 : decode cX10_fewestEars 64 = .ok (.iload 5, 2) := by decide +kernel
theorem dX10_fewestEars_66 : decode cX10_fewestEars 66 = .ok (.invokestatic 51, 3) := by decide +kernel
theorem dX10_fewestEars_69 : decode cX10_fewestEars 69 = .ok (.iload 4, 2) := by decide +kernel
theorem dX10_fewestEars_71 : decode cX10_fewestEars 71 = .ok (.invokestatic 51, 3) := by decide +kernel
theorem dX10_fewestEars_74 : decode cX10_fewestEars 74 = .ok (.if_icmp .ge 7, 3) := by decide +kernel
theorem dX10_fewestEars_77 : decode cX10_fewestEars 77 = .ok (.iconst 1, 1) := by decide +kernel
theorem dX10_fewestEars_78 : decode cX10_fewestEars 78 = .ok (.goto 4, 3) := by decide +kernel
theorem dX10_fewestEars_81 : decode cX10_fewestEars 81 = .ok (.iconst 0, 1) := by decide +kernel
theorem dX10_fewestEars_82 : decode cX10_fewestEars 82 = .ok (.istore 6, 2) := by decide +kernel
theorem dX10_fewestEars_84 : decode cX10_fewestEars 84 = .ok (.iload 6, 2) := by decide +kernel
theorem dX10_fewestEars_86 : decode cX10_fewestEars 86 = .ok (.ifCond .eq 17, 3) := by decide +kernel
theorem dX10_fewestEars_89 : decode cX10_fewestEars 89 = .ok (.aload_n 0, 1) := by decide +kernel
theorem dX10_fewestEars_90 : decode cX10_fewestEars 90 = .ok (.iload 5, 2) := by decide +kernel
theorem dX10_fewestEars_92 : decode cX10_fewestEars 92 = .ok (.iload_n 2, 1) := by decide +kernel
theorem dX10_fewestEars_93 : decode cX10_fewestEars 93 = .ok (.invokevirtual 57, 3) := by decide +kernel
theorem dX10_fewestEars_96 : decode cX10_fewestEars 96 = .ok (.ifCond .eq 7, 3) := by decide +kernel
theorem dX10_fewestEars_99 : decode cX10_fewestEars 99 = .ok (.iload 5, 2) := by decide +kernel
theorem dX10_fewestEars_101 : decode cX10_fewestEars 101 = .ok (.istore 4, 2) := by decide +kernel
theorem dX10_fewestEars_103 : decode cX10_fewestEars 103 = .ok (.iinc 5 1, 3) := by decide +kernel
theorem dX10_fewestEars_106 : decode cX10_fewestEars 106 = .ok (.goto (-62), 3) := by decide +kernel
theorem dX10_fewestEars_109 : decode cX10_fewestEars 109 = .ok (.iload 4, 2) := by decide +kernel
theorem dX10_fewestEars_111 : decode cX10_fewestEars 111 = .ok (.ireturn, 1) := by decide +kernel
set_option maxRecDepth 20000 in
theorem ggX10_coverAll_X5_places : GoodIn wsX10_coverAll wsX5_places := goodIn_r _ [7, 8, 17, 18, 19, 20, 21, 22, 23, 24, 25, 26] (by decide +kernel) (by decide +kernel)
set_option maxRecDepth 20000 in
theorem gX10_coverAll_X5_places : GoodIn wsX10_coverAll (wsV RX10 27 RX5 yX5_places wsX5_places) := goodIn_app (goodIn_of _ (by decide +kernel)) ggX10_coverAll_X5_places
set_option maxRecDepth 20000 in
theorem ggX10_coverAll_X7_get : GoodIn wsX10_coverAll wsX7_get := goodIn_r _ [12] (by decide +kernel) (by decide +kernel)
set_option maxRecDepth 20000 in
theorem gX10_coverAll_X7_get : GoodIn wsX10_coverAll (va_wsS RX10 61 yX7_get wsX7_get) := goodIn_app (goodIn_of _ (by decide +kernel)) ggX10_coverAll_X7_get
theorem dX10_coverAll_0 : decode cX10_coverAll 0 = .ok (.iconst 0, 1) := by decide +kernel
theorem dX10_coverAll_1 : decode cX10_coverAll 1 = .ok (.istore_n 3, 1) := by decide +kernel
theorem dX10_coverAll_2 : decode cX10_coverAll 2 = .ok (.iload_n 3, 1) := by decide +kernel
theorem dX10_coverAll_3 : decode cX10_coverAll 3 = .ok (.aload_n 0, 1) := by decide +kernel
theorem dX10_coverAll_4 : decode cX10_coverAll 4 = .ok (.getfield 15, 3) := by decide +kernel
theorem dX10_coverAll_7 : decode cX10_coverAll 7 = .ok (.invokevirtual 27, 3) := by decide +kernel
theorem dX10_coverAll_10 : decode cX10_coverAll 10 = .ok (.if_icmp .ge 32, 3) := by decide +kernel
theorem dX10_coverAll_13 : decode cX10_coverAll 13 = .ok (.iload_n 2, 1) := by decide +kernel
theorem dX10_coverAll_14 : decode cX10_coverAll 14 = .ok (.iload_n 3, 1) := by decide +kernel
theorem dX10_coverAll_15 : decode cX10_coverAll 15 = .ok (.ishr, 1) := by decide +kernel
theorem dX10_coverAll_16 : decode cX10_coverAll 16 = .ok (.iconst 1, 1) := by decide +kernel
theorem dX10_coverAll_17 : decode cX10_coverAll 17 = .ok (.iand, 1) := by decide +kernel
theorem dX10_coverAll_18 : decode cX10_coverAll 18 = .ok (.ifCond .eq 18, 3) := by decide +kernel
theorem dX10_coverAll_21 : decode cX10_coverAll 21 = .ok (.iload_n 1, 1) := by decide +kernel
theorem dX10_coverAll_22 : decode cX10_coverAll 22 = .ok (.aload_n 0, 1) := by decide +kernel
theorem dX10_coverAll_23 : decode cX10_coverAll 23 = .ok (.getfield 9, 3) := by decide +kernel
theorem dX10_coverAll_26 : decode cX10_coverAll 26 = .ok (.iload_n 3, 1) := by decide +kernel
theorem dX10_coverAll_27 : decode cX10_coverAll 27 = .ok (.invokestatic 61, 3) := by decide +kernel
theorem dX10_coverAll_30 : decode cX10_coverAll 30 = .ok (.iand, 1) := by decide +kernel
theorem dX10_coverAll_31 : decode cX10_coverAll 31 = .ok (.ifCond .ne 5, 3) := by decide +kernel
theorem dX10_coverAll_34 : decode cX10_coverAll 34 = .ok (.iconst 0, 1) := by decide +kernel
theorem dX10_coverAll_35 : decode cX10_coverAll 35 = .ok (.ireturn, 1) := by decide +kernel
theorem dX10_coverAll_36 : decode cX10_coverAll 36 = .ok (.iinc 3 1, 3) := by decide +kernel
theorem dX10_coverAll_39 : decode cX10_coverAll 39 = .ok (.goto (-37), 3) := by decide +kernel
theorem dX10_coverAll_42 : decode cX10_coverAll 42 = .ok (.iconst 1, 1) := by decide +kernel
theorem dX10_coverAll_43 : decode cX10_coverAll 43 = .ok (.ireturn, 1) := by decide +kernel
set_option maxRecDepth 20000 in
theorem ggX10_alikePair_X10_areAlike : GoodIn wsX10_alikePair wsX10_areAlike := goodIn_r _ [7, 1, 8, 9, 10, 11, 12, 13, 14, 15, 16, 17, 18, 19, 20, 21, 22, 23, 24, 25, 26, 27, 28, 29, 30, 31, 32, 33, 34, 35, 36, 37, 38, 39, 40, 41, 42, 43, 44, 45, 46, 47, 48, 49, 50, 51, 52, 53, 54, 55, 56, 57, 58] (by decide +kernel) (by decide +kernel)
set_option maxRecDepth 20000 in
theorem gX10_alikePair_X10_areAlike : GoodIn wsX10_alikePair (wsV RX10 69 RX10 yX10_areAlike wsX10_areAlike) := goodIn_app (goodIn_of _ (by decide +kernel)) ggX10_alikePair_X10_areAlike
theorem dX10_alikePair_0 : decode cX10_alikePair 0 = .ok (.iconst 0, 1) := by decide +kernel
theorem dX10_alikePair_1 : decode cX10_alikePair 1 = .ok (.istore_n 3, 1) := by decide +kernel
theorem dX10_alikePair_2 : decode cX10_alikePair 2 = .ok (.iconst 0, 1) := by decide +kernel
theorem dX10_alikePair_3 : decode cX10_alikePair 3 = .ok (.istore 4, 2) := by decide +kernel
theorem dX10_alikePair_5 : decode cX10_alikePair 5 = .ok (.iload 4, 2) := by decide +kernel
theorem dX10_alikePair_7 : decode cX10_alikePair 7 = .ok (.aload_n 0, 1) := by decide +kernel
theorem dX10_alikePair_8 : decode cX10_alikePair 8 = .ok (.getfield 15, 3) := by decide +kernel
theorem dX10_alikePair_11 : decode cX10_alikePair 11 = .ok (.getfield 65, 3) := by decide +kernel
theorem dX10_alikePair_14 : decode cX10_alikePair 14 = .ok (.if_icmp .ge 65, 3) := by decide +kernel
theorem dX10_alikePair_17 : decode cX10_alikePair 17 = .ok (.iload 4, 2) := by decide +kernel
theorem dX10_alikePair_19 : decode cX10_alikePair 19 = .ok (.iconst 1, 1) := by decide +kernel
theorem dX10_alikePair_20 : decode cX10_alikePair 20 = .ok (.iadd, 1) := by decide +kernel
theorem dX10_alikePair_21 : decode cX10_alikePair 21 = .ok (.istore 5, 2) := by decide +kernel
theorem dX10_alikePair_23 : decode cX10_alikePair 23 = .ok (.iload 5, 2) := by decide +kernel
theorem dX10_alikePair_25 : decode cX10_alikePair 25 = .ok (.aload_n 0, 1) := by decide +kernel
theorem dX10_alikePair_26 : decode cX10_alikePair 26 = .ok (.getfield 15, 3) := by decide +kernel
theorem dX10_alikePair_29 : decode cX10_alikePair 29 = .ok (.getfield 65, 3) := by decide +kernel
theorem dX10_alikePair_32 : decode cX10_alikePair 32 = .ok (.if_icmp .ge 41, 3) := by decide +kernel
theorem dX10_alikePair_35 : decode cX10_alikePair 35 = .ok (.aload_n 0, 1) := by decide +kernel
theorem dX10_alikePair_36 : decode cX10_alikePair 36 = .ok (.iload 4, 2) := by decide +kernel
theorem dX10_alikePair_38 : decode cX10_alikePair 38 = .ok (.iload 5, 2) := by decide +kernel
theorem dX10_alikePair_40 : decode cX10_alikePair 40 = .ok (.iload_n 1, 1) := by decide +kernel
theorem dX10_alikePair_41 : decode cX10_alikePair 41 = .ok (.invokevirtual 69, 3) := by decide +kernel
theorem dX10_alikePair_44 : decode cX10_alikePair 44 = .ok (.ifCond .ne 6, 3) := by decide +kernel
theorem dX10_alikePair_47 : decode cX10_alikePair 47 = .ok (.goto 20, 3) := by decide +kernel
theorem dX10_alikePair_50 : decode cX10_alikePair 50 = .ok (.iload_n 3, 1) := by decide +kernel
theorem dX10_alikePair_51 : decode cX10_alikePair 51 = .ok (.iload_n 2, 1) := by decide +kernel
theorem dX10_alikePair_52 : decode cX10_alikePair 52 = .ok (.if_icmp .ne 12, 3) := by decide +kernel
theorem dX10_alikePair_55 : decode cX10_alikePair 55 = .ok (.bipush 10, 2) := by decide +kernel
theorem dX10_alikePair_57 : decode cX10_alikePair 57 = .ok (.iload 4, 2) := by decide +kernel
theorem dX10_alikePair_59 : decode cX10_alikePair 59 = .ok (.imul, 1) := by decide +kernel
theorem dX10_alikePair_60 : decode cX10_alikePair 60 = .ok (.iload 5, 2) := by decide +kernel
theorem dX10_alikePair_62 : decode cX10_alikePair 62 = .ok (.iadd, 1) := by decide +kernel
theorem dX10_alikePair_63 : decode cX10_alikePair 63 = .ok (.ireturn, 1) := by decide +kernel
theorem dX10_alikePair_64 : decode cX10_alikePair 64 = .ok (.iinc 3 1, 3) := by decide +kernel
theorem dX10_alikePair_67 : decode cX10_alikePair 67 = .ok (.iinc 5 1, 3) := by decide +kernel
theorem dX10_alikePair_70 : decode cX10_alikePair 70 = .ok (.goto (-47), 3) := by decide +kernel
theorem dX10_alikePair_73 : decode cX10_alikePair 73 = .ok (.iinc 4 1, 3) := by decide +kernel
theorem dX10_alikePair_76 : decode cX10_alikePair 76 = .ok (.goto (-71), 3) := by decide +kernel
theorem dX10_alikePair_79 : decode cX10_alikePair 79 = .ok (.iload_n 2, 1) := by decide +kernel
theorem dX10_alikePair_80 : decode cX10_alikePair 80 = .ok (.iconst (-1), 1) := by decide +kernel
theorem dX10_alikePair_81 : decode cX10_alikePair 81 = .ok (.if_icmp .ne 7, 3) := by decide +kernel
theorem dX10_alikePair_84 : decode cX10_alikePair 84 = .ok (.iload_n 3, 1) := by decide +kernel
theorem dX10_alikePair_85 : decode cX10_alikePair 85 = .ok (.goto 4, 3) := by decide +kernel
theorem dX10_alikePair_88 : decode cX10_alikePair 88 = .ok (.iconst (-1), 1) := by decide +kernel
theorem dX10_alikePair_89 : decode cX10_alikePair 89 = .ok (.ireturn, 1) := by decide +kernel
set_option maxRecDepth 20000 in
theorem ggX10_areAlike_X2_saying : GoodIn wsX10_areAlike wsX2_saying := goodIn_r _ [8, 9, 10, 11, 12, 13, 14, 15, 16, 17, 18, 19, 7, 20, 21, 22, 23, 24, 25, 26, 27, 28, 29, 30, 31, 32, 33, 34, 35, 50, 51, 40, 41, 42, 43, 44, 45, 46, 47, 48, 49, 52] (by decide +kernel) (by decide +kernel)
set_option maxRecDepth 20000 in
theorem gX10_areAlike_X2_saying : GoodIn wsX10_areAlike (wsV RX10 76 RX2 yX2_saying wsX2_saying) := goodIn_app (goodIn_of _ (by decide +kernel)) ggX10_areAlike_X2_saying
theorem dX10_areAlike_0 : decode cX10_areAlike 0 = .ok (.iconst 0, 1) := by decide +kernel
theorem dX10_areAlike_1 : decode cX10_areAlike 1 = .ok (.istore 4, 2) := by decide +kernel
theorem dX10_areAlike_3 : decode cX10_areAlike 3 = .ok (.iload 4, 2) := by decide +kernel
theorem dX10_areAlike_5 : decode cX10_areAlike 5 = .ok (.aload_n 0, 1) := by decide +kernel
theorem dX10_areAlike_6 : decode cX10_areAlike 6 = .ok (.getfield 15, 3) := by decide +kernel
theorem dX10_areAlike_9 : decode cX10_areAlike 9 = .ok (.getfield 73, 3) := by decide +kernel
theorem dX10_areAlike_12 : decode cX10_areAlike 12 = .ok (.if_icmp .ge 36, 3) := by decide +kernel
theorem dX10_areAlike_15 : decode cX10_areAlike 15 = .ok (.aload_n 0, 1) := by decide +kernel
theorem dX10_areAlike_16 : decode cX10_areAlike 16 = .ok (.getfield 23, 3) := by decide +kernel
theorem dX10_areAlike_19 : decode cX10_areAlike 19 = .ok (.iload 4, 2) := by decide +kernel
theorem dX10_areAlike_21 : decode cX10_areAlike 21 = .ok (.iload_n 1, 1) := by decide +kernel
theorem dX10_areAlike_22 : decode cX10_areAlike 22 = .ok (.iload_n 3, 1) := by decide +kernel
theorem dX10_areAlike_23 : decode cX10_areAlike 23 = .ok (.invokevirtual 76, 3) := by decide +kernel
theorem dX10_areAlike_26 : decode cX10_areAlike 26 = .ok (.aload_n 0, 1) := by decide +kernel
theorem dX10_areAlike_27 : decode cX10_areAlike 27 = .ok (.getfield 23, 3) := by decide +kernel
theorem dX10_areAlike_30 : decode cX10_areAlike 30 = .ok (.iload 4, 2) := by decide +kernel
theorem dX10_areAlike_32 : decode cX10_areAlike 32 = .ok (.iload_n 2, 1) := by decide +kernel
theorem dX10_areAlike_33 : decode cX10_areAlike 33 = .ok (.iload_n 3, 1) := by decide +kernel
theorem dX10_areAlike_34 : decode cX10_areAlike 34 = .ok (.invokevirtual 76, 3) := by decide +kernel
theorem dX10_areAlike_37 : decode cX10_areAlike 37 = .ok (.if_icmp .eq 5, 3) := by decide +kernel
theorem dX10_areAlike_40 : decode cX10_areAlike 40 = .ok (.iconst 0, 1) := by decide +kernel
theorem dX10_areAlike_41 : decode cX10_areAlike 41 = .ok (.ireturn, 1) := by decide +kernel
theorem dX10_areAlike_42 : decode cX10_areAlike 42 = .ok (.iinc 4 1, 3) := by decide +kernel
theorem dX10_areAlike_45 : decode cX10_areAlike 45 = .ok (.goto (-42), 3) := by decide +kernel
theorem dX10_areAlike_48 : decode cX10_areAlike 48 = .ok (.iconst 1, 1) := by decide +kernel
theorem dX10_areAlike_49 : decode cX10_areAlike 49 = .ok (.ireturn, 1) := by decide +kernel
set_option maxRecDepth 20000 in
theorem ggX10_hidingThickness_X2_margin : GoodIn wsX10_hidingThickness wsX2_margin := goodIn_r _ [16, 17, 18, 19, 20, 21, 22, 23, 24, 25, 26, 27, 15, 28, 29, 6, 7, 8, 30, 10, 11, 31, 53, 54, 55, 43, 44, 45, 46, 47, 48, 49, 50, 51, 52] (by decide +kernel) (by decide +kernel)
set_option maxRecDepth 20000 in
theorem gX10_hidingThickness_X2_margin : GoodIn wsX10_hidingThickness (wsV RX10 79 RX2 yX2_margin wsX2_margin) := goodIn_app (goodIn_of _ (by decide +kernel)) ggX10_hidingThickness_X2_margin
set_option maxRecDepth 20000 in
theorem ggX10_hidingThickness_X8_get : GoodIn wsX10_hidingThickness wsX8_get := goodIn_r _ [36, 37, 38, 22, 23, 24, 55] (by decide +kernel) (by decide +kernel)
set_option maxRecDepth 20000 in
theorem gX10_hidingThickness_X8_get : GoodIn wsX10_hidingThickness (wsV RX10 84 RX8 yX8_get wsX8_get) := goodIn_app (goodIn_of _ (by decide +kernel)) ggX10_hidingThickness_X8_get
theorem dX10_hidingThickness_0 : decode cX10_hidingThickness 0 = .ok (.iconst 0, 1) := by decide +kernel
theorem dX10_hidingThickness_1 : decode cX10_hidingThickness 1 = .ok (.istore 4, 2) := by decide +kernel
theorem dX10_hidingThickness_3 : decode cX10_hidingThickness 3 = .ok (.iconst 0, 1) := by decide +kernel
theorem dX10_hidingThickness_4 : decode cX10_hidingThickness 4 = .ok (.istore 5, 2) := by decide +kernel
theorem dX10_hidingThickness_6 : decode cX10_hidingThickness 6 = .ok (.iload 5, 2) := by decide +kernel
theorem dX10_hidingThickness_8 : decode cX10_hidingThickness 8 = .ok (.aload_n 0, 1) := by decide +kernel
theorem dX10_hidingThickness_9 : decode cX10_hidingThickness 9 = .ok (.getfield 15, 3) := by decide +kernel
theorem dX10_hidingThickness_12 : decode cX10_hidingThickness 12 = .ok (.getfield 73, 3) := by decide +kernel
theorem dX10_hidingThickness_15 : decode cX10_hidingThickness 15 = .ok (.if_icmp .ge 101, 3) := by decide +kernel
theorem dX10_hidingThickness_18 : decode cX10_hidingThickness 18 = .ok (.aload_n 0, 1) := by decide +kernel
theorem dX10_hidingThickness_19 : decode cX10_hidingThickness 19 = .ok (.getfield 23, 3) := by decide +kernel
theorem dX10_hidingThickness_22 : decode cX10_hidingThickness 22 = .ok (.iload 5, 2) := by decide +kernel
theorem dX10_hidingThickness_24 : decode cX10_hidingThickness 24 = .ok (.iload_n 2, 1) := by decide +kernel
theorem dX10_hidingThickness_25 : decode cX10_hidingThickness 25 = .ok (.iload_n 3, 1) := by decide +kernel
theorem dX10_hidingThickness_26 : decode cX10_hidingThickness 26 = .ok (.invokevirtual 79, 3) := by decide +kernel
theorem dX10_hidingThickness_29 : decode cX10_hidingThickness 29 = .ok (.istore 6, 2) := by decide +kernel
theorem dX10_hidingThickness_31 : decode cX10_hidingThickness 31 = .ok (.aload_n 0, 1) := by decide +kernel
theorem dX10_hidingThickness_32 : decode cX10_hidingThickness 32 = .ok (.getfield 19, 3) := by decide +kernel
theorem dX10_hidingThickness_35 : decode cX10_hidingThickness 35 = .ok (.bipush 14, 2) := by decide +kernel
theorem dX10_hidingThickness_37 : decode cX10_hidingThickness 37 = .ok (.iload 5, 2) := by decide +kernel
theorem dX10_hidingThickness_39 : decode cX10_hidingThickness 39 = .ok (.iadd, 1) := by decide +kernel
theorem dX10_hidingThickness_40 : decode cX10_hidingThickness 40 = .ok (.invokevirtual 84, 3) := by decide +kernel
theorem dX10_hidingThickness_43 : decode cX10_hidingThickness 43 = .ok (.istore 7, 2) := by decide +kernel
theorem dX10_hidingThickness_45 : decode cX10_hidingThickness 45 = .ok (.iload_n 3, 1) := by decide +kernel
theorem dX10_hidingThickness_46 : decode cX10_hidingThickness 46 = .ok (.iload 7, 2) := by decide +kernel
theorem dX10_hidingThickness_48 : decode cX10_hidingThickness 48 = .ok (.invokestatic 86, 3) := by decide +kernel
theorem dX10_hidingThickness_51 : decode cX10_hidingThickness 51 = .ok (.iload_n 1, 1) := by decide +kernel
theorem dX10_hidingThickness_52 : decode cX10_hidingThickness 52 = .ok (.if_icmp .gt 17, 3) := by decide +kernel
theorem dX10_hidingThickness_55 : decode cX10_hidingThickness 55 = .ok (.iload_n 1, 1) := by decide +kernel
theorem dX10_hidingThickness_56 : decode cX10_hidingThickness 56 = .ok (.iload_n 3, 1) := by decide +kernel
theorem dX10_hidingThickness_57 : decode cX10_hidingThickness 57 = .ok (.iload 7, 2) := by decide +kernel
theorem dX10_hidingThickness_59 : decode cX10_hidingThickness 59 = .ok (.invokestatic 92, 3) := by decide +kernel
theorem dX10_hidingThickness_62 : decode cX10_hidingThickness 62 = .ok (.if_icmp .ge 7, 3) := by decide +kernel
theorem dX10_hidingThickness_65 : decode cX10_hidingThickness 65 = .ok (.iconst 1, 1) := by decide +kernel
theorem dX10_hidingThickness_66 : decode cX10_hidingThickness 66 = .ok (.goto 4, 3) := by decide +kernel
theorem dX10_hidingThickness_69 : decode cX10_hidingThickness 69 = .ok (.iconst 0, 1) := by decide +kernel
theorem dX10_hidingThickness_70 : decode cX10_hidingThickness 70 = .ok (.istore 8, 2) := by decide +kernel
theorem dX10_hidingThickness_72 : decode cX10_hidingThickness 72 = .ok (.iload 8, 2) := by decide +kernel
theorem dX10_hidingThickness_74 : decode cX10_hidingThickness 74 = .ok (.ifCond .eq 29, 3) := by decide +kernel
theorem dX10_hidingThickness_77 : decode cX10_hidingThickness 77 = .ok (.iload 4, 2) := by decide +kernel
theorem dX10_hidingThickness_79 : decode cX10_hidingThickness 79 = .ok (.iload 6, 2) := by decide +kernel
theorem dX10_hidingThickness_81 : decode cX10_hidingThickness 81 = .ok (.aload_n 0, 1) := by decide +kernel
theorem dX10_hidingThickness_82 : decode cX10_hidingThickness 82 = .ok (.getfield 19, 3) := by decide +kernel
theorem dX10_hidingThickness_85 : decode cX10_hidingThickness 85 = .ok (.bipush 6, 2) := by decide +kernel
theorem dX10_hidingThickness_87 : decode cX10_hidingThickness 87 = .ok (.iload_n 1, 1) := by decide +kernel
theorem dX10_hidingThickness_88 : decode cX10_hidingThickness 88 = .ok (.iadd, 1) := by decide +kernel
theorem dX10_hidingThickness_89 : decode cX10_hidingThickness 89 = .ok (.invokevirtual 84, 3) := by decide +kernel
theorem dX10_hidingThickness_92 : decode cX10_hidingThickness 92 = .ok (.iadd, 1) := by decide +kernel
theorem dX10_hidingThickness_93 : decode cX10_hidingThickness 93 = .ok (.iconst 1, 1) := by decide +kernel
theorem dX10_hidingThickness_94 : decode cX10_hidingThickness 94 = .ok (.iadd, 1) := by decide +kernel
theorem dX10_hidingThickness_95 : decode cX10_hidingThickness 95 = .ok (.invokestatic 92, 3) := by decide +kernel
theorem dX10_hidingThickness_98 : decode cX10_hidingThickness 98 = .ok (.istore 4, 2) := by decide +kernel
theorem dX10_hidingThickness_100 : decode cX10_hidingThickness 100 = .ok (.goto 10, 3) := by decide +kernel
theorem dX10_hidingThickness_103 : decode cX10_hidingThickness 103 = .ok (.iload 6, 2) := by decide +kernel
theorem dX10_hidingThickness_105 : decode cX10_hidingThickness 105 = .ok (.ifCond .lt 5, 3) := by decide +kernel
theorem dX10_hidingThickness_108 : decode cX10_hidingThickness 108 = .ok (.iconst (-1), 1) := by decide +kernel
theorem dX10_hidingThickness_109 : decode cX10_hidingThickness 109 = .ok (.ireturn, 1) := by decide +kernel
theorem dX10_hidingThickness_110 : decode cX10_hidingThickness 110 = .ok (.iinc 5 1, 3) := by decide +kernel
theorem dX10_hidingThickness_113 : decode cX10_hidingThickness 113 = .ok (.goto (-107), 3) := by decide +kernel
theorem dX10_hidingThickness_116 : decode cX10_hidingThickness 116 = .ok (.iload 4, 2) := by decide +kernel
theorem dX10_hidingThickness_118 : decode cX10_hidingThickness 118 = .ok (.bipush 99, 2) := by decide +kernel
theorem dX10_hidingThickness_120 : decode cX10_hidingThickness 120 = .ok (.if_icmp .le 7, 3) := by decide +kernel
theorem dX10_hidingThickness_123 : decode cX10_hidingThickness 123 = .ok (.iconst (-1), 1) := by decide +kernel
theorem dX10_hidingThickness_124 : decode cX10_hidingThickness 124 = .ok (.goto 5, 3) := by decide +kernel
theorem dX10_hidingThickness_127 : decode cX10_hidingThickness 127 = .ok (.iload 4, 2) := by decide +kernel
theorem dX10_hidingThickness_129 : decode cX10_hidingThickness 129 = .ok (.ireturn, 1) := by decide +kernel
set_option maxRecDepth 20000 in
theorem ggX10_oddsOfHearing_J6_bitCount_0f7a4 : GoodIn wsX10_oddsOfHearing wsJ6_bitCount_0f7a4 := goodIn_r _ [7, 8, 9, 10] (by decide +kernel) (by decide +kernel)
set_option maxRecDepth 20000 in
theorem gX10_oddsOfHearing_J6_bitCount_0f7a4 : GoodIn wsX10_oddsOfHearing (va_wsS RX10 51 yJ6_bitCount_0f7a4 wsJ6_bitCount_0f7a4) := goodIn_app (goodIn_of _ (by decide +kernel)) ggX10_oddsOfHearing_J6_bitCount_0f7a4
set_option maxRecDepth 20000 in
theorem ggX10_oddsOfHearing_X10_unheard : GoodIn wsX10_oddsOfHearing wsX10_unheard := goodIn_r _ [15, 1, 16, 17, 18, 19, 20, 21, 22, 23, 24, 25, 26, 27, 28, 29, 30, 31, 32, 33, 34, 35, 36, 37, 38, 39, 40, 41, 42, 43, 44, 45, 46, 47, 48, 49, 50, 51, 52, 53, 54, 55, 56, 57, 58, 59, 60, 61, 62, 63, 64, 65, 66, 67, 68, 69] (by decide +kernel) (by decide +kernel)
set_option maxRecDepth 20000 in
theorem gX10_oddsOfHearing_X10_unheard : GoodIn wsX10_oddsOfHearing (wsV RX10 95 RX10 yX10_unheard wsX10_unheard) := goodIn_app (goodIn_of _ (by decide +kernel)) ggX10_oddsOfHearing_X10_unheard
theorem dX10_oddsOfHearing_0 : decode cX10_oddsOfHearing 0 = .ok (.aload_n 0, 1) := by decide +kernel
theorem dX10_oddsOfHearing_1 : decode cX10_oddsOfHearing 1 = .ok (.getfield 15, 3) := by decide +kernel
theorem dX10_oddsOfHearing_4 : decode cX10_oddsOfHearing 4 = .ok (.getfield 65, 3) := by decide +kernel
theorem dX10_oddsOfHearing_7 : decode cX10_oddsOfHearing 7 = .ok (.iload_n 1, 1) := by decide +kernel
theorem dX10_oddsOfHearing_8 : decode cX10_oddsOfHearing 8 = .ok (.invokestatic 51, 3) := by decide +kernel
theorem dX10_oddsOfHearing_11 : decode cX10_oddsOfHearing 11 = .ok (.imul, 1) := by decide +kernel
theorem dX10_oddsOfHearing_12 : decode cX10_oddsOfHearing 12 = .ok (.istore_n 2, 1) := by decide +kernel
theorem dX10_oddsOfHearing_13 : decode cX10_oddsOfHearing 13 = .ok (.iload_n 2, 1) := by decide +kernel
theorem dX10_oddsOfHearing_14 : decode cX10_oddsOfHearing 14 = .ok (.ifCond .gt 5, 3) := by decide +kernel
theorem dX10_oddsOfHearing_17 : decode cX10_oddsOfHearing 17 = .ok (.iconst 0, 1) := by decide +kernel
theorem dX10_oddsOfHearing_18 : decode cX10_oddsOfHearing 18 = .ok (.ireturn, 1) := by decide +kernel
theorem dX10_oddsOfHearing_19 : decode cX10_oddsOfHearing 19 = .ok (.iconst 0, 1) := by decide +kernel
theorem dX10_oddsOfHearing_20 : decode cX10_oddsOfHearing 20 = .ok (.istore_n 3, 1) := by decide +kernel
theorem dX10_oddsOfHearing_21 : decode cX10_oddsOfHearing 21 = .ok (.iconst 0, 1) := by decide +kernel
theorem dX10_oddsOfHearing_22 : decode cX10_oddsOfHearing 22 = .ok (.istore 4, 2) := by decide +kernel
theorem dX10_oddsOfHearing_24 : decode cX10_oddsOfHearing 24 = .ok (.iload 4, 2) := by decide +kernel
theorem dX10_oddsOfHearing_26 : decode cX10_oddsOfHearing 26 = .ok (.aload_n 0, 1) := by decide +kernel
theorem dX10_oddsOfHearing_27 : decode cX10_oddsOfHearing 27 = .ok (.getfield 15, 3) := by decide +kernel
theorem dX10_oddsOfHearing_30 : decode cX10_oddsOfHearing 30 = .ok (.getfield 65, 3) := by decide +kernel
theorem dX10_oddsOfHearing_33 : decode cX10_oddsOfHearing 33 = .ok (.if_icmp .ge 25, 3) := by decide +kernel
theorem dX10_oddsOfHearing_36 : decode cX10_oddsOfHearing 36 = .ok (.iload_n 3, 1) := by decide +kernel
theorem dX10_oddsOfHearing_37 : decode cX10_oddsOfHearing 37 = .ok (.iload_n 1, 1) := by decide +kernel
theorem dX10_oddsOfHearing_38 : decode cX10_oddsOfHearing 38 = .ok (.aload_n 0, 1) := by decide +kernel
theorem dX10_oddsOfHearing_39 : decode cX10_oddsOfHearing 39 = .ok (.iload 4, 2) := by decide +kernel
theorem dX10_oddsOfHearing_41 : decode cX10_oddsOfHearing 41 = .ok (.invokevirtual 95, 3) := by decide +kernel
theorem dX10_oddsOfHearing_44 : decode cX10_oddsOfHearing 44 = .ok (.iconst (-1), 1) := by decide +kernel
theorem dX10_oddsOfHearing_45 : decode cX10_oddsOfHearing 45 = .ok (.ixor, 1) := by decide +kernel
theorem dX10_oddsOfHearing_46 : decode cX10_oddsOfHearing 46 = .ok (.iand, 1) := by decide +kernel
theorem dX10_oddsOfHearing_47 : decode cX10_oddsOfHearing 47 = .ok (.invokestatic 51, 3) := by decide +kernel
theorem dX10_oddsOfHearing_50 : decode cX10_oddsOfHearing 50 = .ok (.iadd, 1) := by decide +kernel
theorem dX10_oddsOfHearing_51 : decode cX10_oddsOfHearing 51 = .ok (.istore_n 3, 1) := by decide +kernel
theorem dX10_oddsOfHearing_52 : decode cX10_oddsOfHearing 52 = .ok (.iinc 4 1, 3) := by decide +kernel
theorem dX10_oddsOfHearing_55 : decode cX10_oddsOfHearing 55 = .ok (.goto (-31), 3) := by decide +kernel
theorem dX10_oddsOfHearing_58 : decode cX10_oddsOfHearing 58 = .ok (.iload_n 3, 1) := by decide +kernel
theorem dX10_oddsOfHearing_59 : decode cX10_oddsOfHearing 59 = .ok (.ldc 98, 2) := by decide +kernel
theorem dX10_oddsOfHearing_61 : decode cX10_oddsOfHearing 61 = .ok (.imul, 1) := by decide +kernel
theorem dX10_oddsOfHearing_62 : decode cX10_oddsOfHearing 62 = .ok (.iload_n 2, 1) := by decide +kernel
theorem dX10_oddsOfHearing_63 : decode cX10_oddsOfHearing 63 = .ok (.idiv, 1) := by decide +kernel
theorem dX10_oddsOfHearing_64 : decode cX10_oddsOfHearing 64 = .ok (.ireturn, 1) := by decide +kernel
set_option maxRecDepth 20000 in
theorem ggX11_init_X9_init : GoodIn wsX11_init wsX9_init := goodIn_r _ [45, 46, 2, 3, 47, 48, 121, 122] (by decide +kernel) (by decide +kernel)
set_option maxRecDepth 20000 in
theorem gX11_init_X9_init_n11 : GoodIn wsX11_init (wsX9_init) := ggX11_init_X9_init
set_option maxRecDepth 20000 in
theorem ggX11_init_X5_init : GoodIn wsX11_init wsX5_init := goodIn_r _ [50, 51, 2, 3, 47, 52, 53, 54, 55, 56, 57, 134, 135, 136, 137, 138, 139, 140, 141, 142, 143] (by decide +kernel) (by decide +kernel)
set_option maxRecDepth 20000 in
theorem gX11_init_X5_init_n18 : GoodIn wsX11_init (wsX5_init) := ggX11_init_X5_init
set_option maxRecDepth 20000 in
theorem ggX11_init_X6_init : GoodIn wsX11_init wsX6_init := goodIn_r _ [60, 61, 2, 3, 62, 9, 10, 63, 64, 65, 49, 50, 51, 47, 52, 53, 54, 55, 56, 57, 134, 135, 136, 137, 138, 139, 140, 141, 142, 143, 144, 145, 146, 147, 148, 149] (by decide +kernel) (by decide +kernel)
set_option maxRecDepth 20000 in
theorem gX11_init_X6_init : GoodIn wsX11_init (wsX6_init) := ggX11_init_X6_init
set_option maxRecDepth 20000 in
theorem ggX11_init_X8_init : GoodIn wsX11_init wsX8_init := goodIn_r _ [68, 69, 2, 3, 47, 70, 71, 72, 73, 18, 74, 75, 76, 77, 78, 79, 80, 81, 82, 150] (by decide +kernel) (by decide +kernel)
set_option maxRecDepth 20000 in
theorem gX11_init_X8_init : GoodIn wsX11_init (wsX8_init) := ggX11_init_X8_init
set_option maxRecDepth 20000 in
theorem ggX11_init_X4_init : GoodIn wsX11_init wsX4_init := goodIn_r _ [84, 85, 2, 3, 47, 86, 151, 152, 153] (by decide +kernel) (by decide +kernel)
set_option maxRecDepth 20000 in
theorem gX11_init_X4_init_n41 : GoodIn wsX11_init (wsX4_init) := ggX11_init_X4_init
set_option maxRecDepth 20000 in
theorem ggX11_init_X2_init : GoodIn wsX11_init wsX2_init := goodIn_r _ [89, 90, 2, 3, 91, 92, 154, 155] (by decide +kernel) (by decide +kernel)
set_option maxRecDepth 20000 in
theorem gX11_init_X2_init : GoodIn wsX11_init (wsX2_init) := ggX11_init_X2_init
set_option maxRecDepth 20000 in
theorem ggX11_init_X10_init : GoodIn wsX11_init wsX10_init := goodIn_r _ [95, 96, 2, 3, 47, 97, 98, 99, 100, 156, 157, 158, 159] (by decide +kernel) (by decide +kernel)
set_option maxRecDepth 20000 in
theorem gX11_init_X10_init : GoodIn wsX11_init (wsX10_init) := ggX11_init_X10_init
set_option maxRecDepth 20000 in
theorem ggX11_init_X1_init : GoodIn wsX11_init wsX1_init := goodIn_r _ [103, 104, 2, 3, 47, 105, 106, 107, 108, 109, 110, 160, 161, 162, 163, 164, 165, 166, 167] (by decide +kernel) (by decide +kernel)
set_option maxRecDepth 20000 in
theorem gX11_init_X1_init : GoodIn wsX11_init (wsX1_init) := ggX11_init_X1_init
set_option maxRecDepth 20000 in
theorem ggX11_init_X0_init : GoodIn wsX11_init wsX0_init := goodIn_r _ [112, 113, 2, 3, 47, 114, 168, 169] (by decide +kernel) (by decide +kernel)
set_option maxRecDepth 20000 in
theorem gX11_init_X0_init_n81 : GoodIn wsX11_init (wsX0_init) := ggX11_init_X0_init
set_option maxRecDepth 20000 in
theorem ggX11_init_X3_init : GoodIn wsX11_init wsX3_init := goodIn_r _ [116, 117, 2, 3, 118, 17, 18, 119, 120, 67, 68, 69, 47, 70, 71, 72, 73, 74, 75, 76, 77, 78, 79, 80, 81, 82, 150, 170, 171, 172] (by decide +kernel) (by decide +kernel)
set_option maxRecDepth 20000 in
theorem gX11_init_X3_init_n86 : GoodIn wsX11_init (wsX3_init) := ggX11_init_X3_init
theorem dX11_init_0 : decode cX11_init 0 = .ok (.aload_n 0, 1) := by decide +kernel
theorem dX11_init_1 : decode cX11_init 1 = .ok (.invokespecial 3, 3) := by decide +kernel
theorem dX11_init_4 : decode cX11_init 4 = .ok (.aload_n 0, 1) := by decide +kernel
theorem dX11_init_5 : decode cX11_init 5 = .ok (.new 9, 3) := by decide +kernel
theorem dX11_init_8 : decode cX11_init 8 = .ok (.dup, 1) := by decide +kernel
theorem dX11_init_9 : decode cX11_init 9 = .ok (.invokespecial 11, 3) := by decide +kernel
theorem dX11_init_12 : decode cX11_init 12 = .ok (.putfield 12, 3) := by decide +kernel
theorem dX11_init_15 : decode cX11_init 15 = .ok (.aload_n 0, 1) := by decide +kernel
theorem dX11_init_16 : decode cX11_init 16 = .ok (.new 16, 3) := by decide +kernel
theorem dX11_init_19 : decode cX11_init 19 = .ok (.dup, 1) := by decide +kernel
theorem dX11_init_20 : decode cX11_init 20 = .ok (.invokespecial 18, 3) := by decide +kernel
theorem dX11_init_23 : decode cX11_init 23 = .ok (.putfield 19, 3) := by decide +kernel
theorem dX11_init_26 : decode cX11_init 26 = .ok (.aload_n 0, 1) := by decide +kernel
theorem dX11_init_27 : decode cX11_init 27 = .ok (.new 23, 3) := by decide +kernel
theorem dX11_init_30 : decode cX11_init 30 = .ok (.dup, 1) := by decide +kernel
theorem dX11_init_31 : decode cX11_init 31 = .ok (.aload_n 0, 1) := by decide +kernel
theorem dX11_init_32 : decode cX11_init 32 = .ok (.getfield 12, 3) := by decide +kernel
theorem dX11_init_35 : decode cX11_init 35 = .ok (.invokespecial 25, 3) := by decide +kernel
theorem dX11_init_38 : decode cX11_init 38 = .ok (.putfield 28, 3) := by decide +kernel
theorem dX11_init_41 : decode cX11_init 41 = .ok (.aload_n 0, 1) := by decide +kernel
theorem dX11_init_42 : decode cX11_init 42 = .ok (.new 32, 3) := by decide +kernel
theorem dX11_init_45 : decode cX11_init 45 = .ok (.dup, 1) := by decide +kernel
theorem dX11_init_46 : decode cX11_init 46 = .ok (.invokespecial 34, 3) := by decide +kernel
theorem dX11_init_49 : decode cX11_init 49 = .ok (.putfield 35, 3) := by decide +kernel
theorem dX11_init_52 : decode cX11_init 52 = .ok (.aload_n 0, 1) := by decide +kernel
theorem dX11_init_53 : decode cX11_init 53 = .ok (.new 39, 3) := by decide +kernel
theorem dX11_init_56 : decode cX11_init 56 = .ok (.dup, 1) := by decide +kernel
theorem dX11_init_57 : decode cX11_init 57 = .ok (.invokespecial 41, 3) := by decide +kernel
theorem dX11_init_60 : decode cX11_init 60 = .ok (.putfield 42, 3) := by decide +kernel
theorem dX11_init_63 : decode cX11_init 63 = .ok (.aload_n 0, 1) := by decide +kernel
theorem dX11_init_64 : decode cX11_init 64 = .ok (.iconst 2, 1) := by decide +kernel
theorem dX11_init_65 : decode cX11_init 65 = .ok (.anewarray 46, 3) := by decide +kernel
theorem dX11_init_68 : decode cX11_init 68 = .ok (.putfield 48, 3) := by decide +kernel
theorem dX11_init_71 : decode cX11_init 71 = .ok (.aload_n 0, 1) := by decide +kernel
theorem dX11_init_72 : decode cX11_init 72 = .ok (.new 52, 3) := by decide +kernel
theorem dX11_init_75 : decode cX11_init 75 = .ok (.dup, 1) := by decide +kernel
theorem dX11_init_76 : decode cX11_init 76 = .ok (.aload_n 0, 1) := by decide +kernel
theorem dX11_init_77 : decode cX11_init 77 = .ok (.getfield 19, 3) := by decide +kernel
theorem dX11_init_80 : decode cX11_init 80 = .ok (.aload_n 0, 1) := by decide +kernel
theorem dX11_init_81 : decode cX11_init 81 = .ok (.getfield 35, 3) := by decide +kernel
theorem dX11_init_84 : decode cX11_init 84 = .ok (.invokespecial 54, 3) := by decide +kernel
theorem dX11_init_87 : decode cX11_init 87 = .ok (.putfield 57, 3) := by decide +kernel
theorem dX11_init_90 : decode cX11_init 90 = .ok (.aload_n 0, 1) := by decide +kernel
theorem dX11_init_91 : decode cX11_init 91 = .ok (.new 61, 3) := by decide +kernel
theorem dX11_init_94 : decode cX11_init 94 = .ok (.dup, 1) := by decide +kernel
theorem dX11_init_95 : decode cX11_init 95 = .ok (.aload_n 0, 1) := by decide +kernel
theorem dX11_init_96 : decode cX11_init 96 = .ok (.getfield 19, 3) := by decide +kernel
theorem dX11_init_99 : decode cX11_init 99 = .ok (.aload_n 0, 1) := by decide +kernel
theorem dX11_init_100 : decode cX11_init 100 = .ok (.getfield 35, 3) := by decide +kernel
theorem dX11_init_103 : decode cX11_init 103 = .ok (.aload_n 0, 1) := by decide +kernel
theorem dX11_init_104 : decode cX11_init 104 = .ok (.getfield 57, 3) := by decide +kernel
theorem dX11_init_107 : decode cX11_init 107 = .ok (.invokespecial 63, 3) := by decide +kernel
theorem dX11_init_110 : decode cX11_init 110 = .ok (.putfield 66, 3) := by decide +kernel
theorem dX11_init_113 : decode cX11_init 113 = .ok (.aload_n 0, 1) := by decide +kernel
theorem dX11_init_114 : decode cX11_init 114 = .ok (.new 70, 3) := by decide +kernel
theorem dX11_init_117 : decode cX11_init 117 = .ok (.dup, 1) := by decide +kernel
theorem dX11_init_118 : decode cX11_init 118 = .ok (.aload_n 0, 1) := by decide +kernel
theorem dX11_init_119 : decode cX11_init 119 = .ok (.getfield 19, 3) := by decide +kernel
theorem dX11_init_122 : decode cX11_init 122 = .ok (.aload_n 0, 1) := by decide +kernel
theorem dX11_init_123 : decode cX11_init 123 = .ok (.getfield 57, 3) := by decide +kernel
theorem dX11_init_126 : decode cX11_init 126 = .ok (.invokespecial 72, 3) := by decide +kernel
theorem dX11_init_129 : decode cX11_init 129 = .ok (.putfield 75, 3) := by decide +kernel
theorem dX11_init_132 : decode cX11_init 132 = .ok (.aload_n 0, 1) := by decide +kernel
theorem dX11_init_133 : decode cX11_init 133 = .ok (.new 79, 3) := by decide +kernel
theorem dX11_init_136 : decode cX11_init 136 = .ok (.dup, 1) := by decide +kernel
theorem dX11_init_137 : decode cX11_init 137 = .ok (.invokespecial 81, 3) := by decide +kernel
theorem dX11_init_140 : decode cX11_init 140 = .ok (.putfield 82, 3) := by decide +kernel
theorem dX11_init_143 : decode cX11_init 143 = .ok (.iconst 0, 1) := by decide +kernel
theorem dX11_init_144 : decode cX11_init 144 = .ok (.istore_n 1, 1) := by decide +kernel
theorem dX11_init_145 : decode cX11_init 145 = .ok (.iload_n 1, 1) := by decide +kernel
theorem dX11_init_146 : decode cX11_init 146 = .ok (.aload_n 0, 1) := by decide +kernel
theorem dX11_init_147 : decode cX11_init 147 = .ok (.getfield 48, 3) := by decide +kernel
theorem dX11_init_150 : decode cX11_init 150 = .ok (.arraylength, 1) := by decide +kernel
theorem dX11_init_151 : decode cX11_init 151 = .ok (.if_icmp .ge 22, 3) := by decide +kernel
theorem dX11_init_154 : decode cX11_init 154 = .ok (.aload_n 0, 1) := by decide +kernel
theorem dX11_init_155 : decode cX11_init 155 = .ok (.getfield 48, 3) := by decide +kernel
theorem dX11_init_158 : decode cX11_init 158 = .ok (.iload_n 1, 1) := by decide +kernel
theorem dX11_init_159 : decode cX11_init 159 = .ok (.new 46, 3) := by decide +kernel
theorem dX11_init_162 : decode cX11_init 162 = .ok (.dup, 1) := by decide +kernel
theorem dX11_init_163 : decode cX11_init 163 = .ok (.invokespecial 86, 3) := by decide +kernel
theorem dX11_init_166 : decode cX11_init 166 = .ok (.aastore, 1) := by decide +kernel
theorem dX11_init_167 : decode cX11_init 167 = .ok (.iinc 1 1, 3) := by decide +kernel
theorem dX11_init_170 : decode cX11_init 170 = .ok (.goto (-25), 3) := by decide +kernel
theorem dX11_init_173 : decode cX11_init 173 = .ok (.return_, 1) := by decide +kernel
set_option maxRecDepth 20000 in
theorem ggX11_feed_X11_isOutside : GoodIn wsX11_feed wsX11_isOutside := goodIn_r _ [8] (by decide +kernel) (by decide +kernel)
set_option maxRecDepth 20000 in
theorem gX11_feed_X11_isOutside : GoodIn wsX11_feed (va_wsS RX11 87 yX11_isOutside wsX11_isOutside) := goodIn_app (goodIn_of _ (by decide +kernel)) ggX11_feed_X11_isOutside
set_option maxRecDepth 20000 in
theorem ggX11_feed_X9_add : GoodIn wsX11_feed wsX9_add := goodIn_r _ [13, 14, 15, 16, 17, 18, 19, 31, 32] (by decide +kernel) (by decide +kernel)
set_option maxRecDepth 20000 in
theorem gX11_feed_X9_add : GoodIn wsX11_feed (wsV RX11 92 RX9 yX9_add wsX9_add) := goodIn_app (goodIn_of _ (by decide +kernel)) ggX11_feed_X9_add
theorem dX11_feed_0 : decode cX11_feed 0 = .ok (.iload_n 1, 1) := by decide +kernel
theorem dX11_feed_1 : decode cX11_feed 1 = .ok (.sipush 255, 3) := by decide +kernel
theorem dX11_feed_4 : decode cX11_feed 4 = .ok (.invokestatic 87, 3) := by decide +kernel
theorem dX11_feed_7 : decode cX11_feed 7 = .ok (.ifCond .eq 6, 3) := by decide +kernel
theorem dX11_feed_10 : decode cX11_feed 10 = .ok (.ldc 91, 2) := by decide +kernel
theorem dX11_feed_12 : decode cX11_feed 12 = .ok (.ireturn, 1) := by decide +kernel
theorem dX11_feed_13 : decode cX11_feed 13 = .ok (.aload_n 0, 1) := by decide +kernel
theorem dX11_feed_14 : decode cX11_feed 14 = .ok (.getfield 12, 3) := by decide +kernel
theorem dX11_feed_17 : decode cX11_feed 17 = .ok (.iload_n 1, 1) := by decide +kernel
theorem dX11_feed_18 : decode cX11_feed 18 = .ok (.invokevirtual 92, 3) := by decide +kernel
theorem dX11_feed_21 : decode cX11_feed 21 = .ok (.ifCond .eq 13, 3) := by decide +kernel
theorem dX11_feed_24 : decode cX11_feed 24 = .ok (.aload_n 0, 1) := by decide +kernel
theorem dX11_feed_25 : decode cX11_feed 25 = .ok (.getfield 12, 3) := by decide +kernel
theorem dX11_feed_28 : decode cX11_feed 28 = .ok (.getfield 96, 3) := by decide +kernel
theorem dX11_feed_31 : decode cX11_feed 31 = .ok (.goto 5, 3) := by decide +kernel
theorem dX11_feed_34 : decode cX11_feed 34 = .ok (.ldc 100, 2) := by decide +kernel
theorem dX11_feed_36 : decode cX11_feed 36 = .ok (.ireturn, 1) := by decide +kernel
set_option maxRecDepth 20000 in
theorem ggX11_house_X6_read : GoodIn wsX11_house wsX6_read := goodIn_r _ [17, 18, 19, 20, 21, 22, 23, 24, 25, 26, 27, 28, 29, 30, 31, 32, 33, 34, 35, 36, 16, 37, 38, 39, 40, 41, 42, 43, 44, 45, 46, 47, 48, 49, 50, 51, 52, 53, 54, 55, 56, 57, 58, 59, 60, 61, 62, 63, 64, 65, 66, 67, 68, 69, 70, 71, 72, 73, 74, 75, 76, 77, 78, 79, 80, 81, 82, 83, 84, 85, 86, 87, 88, 89, 90, 91, 92, 93, 94, 95, 96, 97, 98, 99, 100, 101, 102, 103, 104, 105, 106, 107, 108, 109, 110, 111, 112, 113, 178, 179, 180, 181, 182, 183, 176, 177, 194, 195, 196, 197, 198, 199, 200, 201, 202, 203] (by decide +kernel) (by decide +kernel)
set_option maxRecDepth 20000 in
theorem gX11_house_X6_read : GoodIn wsX11_house (wsV RX11 101 RX6 yX6_read wsX6_read) := goodIn_app (goodIn_of _ (by decide +kernel)) ggX11_house_X6_read
set_option maxRecDepth 20000 in
theorem ggX11_house_X5_take : GoodIn wsX11_house wsX5_take := goodIn_r _ [117, 30, 31, 32, 33, 76, 99, 100, 111, 112, 113, 118, 119, 79, 120, 121, 122, 123, 124, 78, 80, 194, 195, 196, 197, 198, 199, 200, 201, 202, 203] (by decide +kernel) (by decide +kernel)
set_option maxRecDepth 20000 in
theorem gX11_house_X5_take : GoodIn wsX11_house (wsV RX11 108 RX5 yX5_take wsX5_take) := goodIn_app (goodIn_of _ (by decide +kernel)) ggX11_house_X5_take
set_option maxRecDepth 20000 in
theorem ggX11_house_X8_begin : GoodIn wsX11_house wsX8_begin := goodIn_r _ [129, 130, 131, 132, 133, 134, 135, 136, 128, 137, 138, 139, 140, 141, 142, 78, 79, 80, 143, 119, 120, 121, 122, 123, 124, 194, 195, 196, 197, 198, 199, 200, 201, 202, 203, 204] (by decide +kernel) (by decide +kernel)
set_option maxRecDepth 20000 in
theorem gX11_house_X8_begin : GoodIn wsX11_house (wsV RX11 112 RX8 yX8_begin wsX8_begin) := goodIn_app (goodIn_of _ (by decide +kernel)) ggX11_house_X8_begin
set_option maxRecDepth 20000 in
theorem ggX11_house_X4_forget : GoodIn wsX11_house wsX4_forget := goodIn_r _ [148, 149, 205, 206, 207] (by decide +kernel) (by decide +kernel)
set_option maxRecDepth 20000 in
theorem gX11_house_X4_forget : GoodIn wsX11_house (wsV RX11 115 RX4 yX4_forget wsX4_forget) := goodIn_app (goodIn_of _ (by decide +kernel)) ggX11_house_X4_forget
set_option maxRecDepth 20000 in
theorem ggX11_house_X11_forgetImages : GoodIn wsX11_house wsX11_forgetImages := goodIn_r _ [154, 155, 156, 157, 158, 159, 153, 160, 165, 166, 167, 168, 169, 170, 171, 172, 173, 174, 175, 208, 209, 210] (by decide +kernel) (by decide +kernel)
set_option maxRecDepth 20000 in
theorem gX11_house_X11_forgetImages : GoodIn wsX11_house (wsV RX11 118 RX11 yX11_forgetImages wsX11_forgetImages) := goodIn_app (goodIn_of _ (by decide +kernel)) ggX11_house_X11_forgetImages
set_option maxRecDepth 20000 in
theorem ggX11_house_X5_places : GoodIn wsX11_house wsX5_places := goodIn_r _ [164, 30, 194, 195, 196, 197, 198, 199, 200, 201, 202, 203] (by decide +kernel) (by decide +kernel)
set_option maxRecDepth 20000 in
theorem gX11_house_X5_places : GoodIn wsX11_house (wsV RX11 125 RX5 yX5_places wsX5_places) := goodIn_app (goodIn_of _ (by decide +kernel)) ggX11_house_X5_places
theorem dX11_house_0 : decode cX11_house 0 = .ok (.aload_n 0, 1) := by decide +kernel
theorem dX11_house_1 : decode cX11_house 1 = .ok (.getfield 28, 3) := by decide +kernel
theorem dX11_house_4 : decode cX11_house 4 = .ok (.invokevirtual 101, 3) := by decide +kernel
theorem dX11_house_7 : decode cX11_house 7 = .ok (.aload_n 0, 1) := by decide +kernel
theorem dX11_house_8 : decode cX11_house 8 = .ok (.getfield 12, 3) := by decide +kernel
theorem dX11_house_11 : decode cX11_house 11 = .ok (.iconst 0, 1) := by decide +kernel
theorem dX11_house_12 : decode cX11_house 12 = .ok (.putfield 96, 3) := by decide +kernel
theorem dX11_house_15 : decode cX11_house 15 = .ok (.aload_n 0, 1) := by decide +kernel
theorem dX11_house_16 : decode cX11_house 16 = .ok (.getfield 28, 3) := by decide +kernel
theorem dX11_house_19 : decode cX11_house 19 = .ok (.getfield 104, 3) := by decide +kernel
theorem dX11_house_22 : decode cX11_house 22 = .ok (.ifCond .eq 14, 3) := by decide +kernel
theorem dX11_house_25 : decode cX11_house 25 = .ok (.bipush (-10), 2) := by decide +kernel
theorem dX11_house_27 : decode cX11_house 27 = .ok (.aload_n 0, 1) := by decide +kernel
theorem dX11_house_28 : decode cX11_house 28 = .ok (.getfield 28, 3) := by decide +kernel
theorem dX11_house_31 : decode cX11_house 31 = .ok (.getfield 104, 3) := by decide +kernel
theorem dX11_house_34 : decode cX11_house 34 = .ok (.isub, 1) := by decide +kernel
theorem dX11_house_35 : decode cX11_house 35 = .ok (.ireturn, 1) := by decide +kernel
theorem dX11_house_36 : decode cX11_house 36 = .ok (.aload_n 0, 1) := by decide +kernel
theorem dX11_house_37 : decode cX11_house 37 = .ok (.getfield 19, 3) := by decide +kernel
theorem dX11_house_40 : decode cX11_house 40 = .ok (.aload_n 0, 1) := by decide +kernel
theorem dX11_house_41 : decode cX11_house 41 = .ok (.getfield 28, 3) := by decide +kernel
theorem dX11_house_44 : decode cX11_house 44 = .ok (.getfield 107, 3) := by decide +kernel
theorem dX11_house_47 : decode cX11_house 47 = .ok (.invokevirtual 108, 3) := by decide +kernel
theorem dX11_house_50 : decode cX11_house 50 = .ok (.aload_n 0, 1) := by decide +kernel
theorem dX11_house_51 : decode cX11_house 51 = .ok (.getfield 35, 3) := by decide +kernel
theorem dX11_house_54 : decode cX11_house 54 = .ok (.aload_n 0, 1) := by decide +kernel
theorem dX11_house_55 : decode cX11_house 55 = .ok (.getfield 19, 3) := by decide +kernel
theorem dX11_house_58 : decode cX11_house 58 = .ok (.invokevirtual 112, 3) := by decide +kernel
theorem dX11_house_61 : decode cX11_house 61 = .ok (.aload_n 0, 1) := by decide +kernel
theorem dX11_house_62 : decode cX11_house 62 = .ok (.getfield 42, 3) := by decide +kernel
theorem dX11_house_65 : decode cX11_house 65 = .ok (.invokevirtual 115, 3) := by decide +kernel
theorem dX11_house_68 : decode cX11_house 68 = .ok (.aload_n 0, 1) := by decide +kernel
theorem dX11_house_69 : decode cX11_house 69 = .ok (.invokevirtual 118, 3) := by decide +kernel
theorem dX11_house_72 : decode cX11_house 72 = .ok (.aload_n 0, 1) := by decide +kernel
theorem dX11_house_73 : decode cX11_house 73 = .ok (.getfield 75, 3) := by decide +kernel
theorem dX11_house_76 : decode cX11_house 76 = .ok (.iconst 0, 1) := by decide +kernel
theorem dX11_house_77 : decode cX11_house 77 = .ok (.putfield 121, 3) := by decide +kernel
theorem dX11_house_80 : decode cX11_house 80 = .ok (.aload_n 0, 1) := by decide +kernel
theorem dX11_house_81 : decode cX11_house 81 = .ok (.getfield 82, 3) := by decide +kernel
theorem dX11_house_84 : decode cX11_house 84 = .ok (.iconst 0, 1) := by decide +kernel
theorem dX11_house_85 : decode cX11_house 85 = .ok (.putfield 124, 3) := by decide +kernel
theorem dX11_house_88 : decode cX11_house 88 = .ok (.aload_n 0, 1) := by decide +kernel
theorem dX11_house_89 : decode cX11_house 89 = .ok (.getfield 19, 3) := by decide +kernel
theorem dX11_house_92 : decode cX11_house 92 = .ok (.invokevirtual 125, 3) := by decide +kernel
theorem dX11_house_95 : decode cX11_house 95 = .ok (.ireturn, 1) := by decide +kernel
theorem dX11_fault_0 : decode cX11_fault 0 = .ok (.aload_n 0, 1) := by decide +kernel
theorem dX11_fault_1 : decode cX11_fault 1 = .ok (.getfield 28, 3) := by decide +kernel
theorem dX11_fault_4 : decode cX11_fault 4 = .ok (.getfield 129, 3) := by decide +kernel
theorem dX11_fault_7 : decode cX11_fault 7 = .ok (.ireturn, 1) := by decide +kernel
set_option maxRecDepth 20000 in
theorem ggX11_told_X5_places : GoodIn wsX11_told wsX5_places := goodIn_r _ [18, 19, 41, 42, 43, 44, 45, 46, 47, 48, 49, 50] (by decide +kernel) (by decide +kernel)
set_option maxRecDepth 20000 in
theorem gX11_told_X5_places : GoodIn wsX11_told (wsV RX11 125 RX5 yX5_places wsX5_places) := goodIn_app (goodIn_of _ (by decide +kernel)) ggX11_told_X5_places
set_option maxRecDepth 20000 in
theorem ggX11_told_X8_get : GoodIn wsX11_told wsX8_get := goodIn_r _ [24, 25, 26, 27, 28, 29, 66] (by decide +kernel) (by decide +kernel)
set_option maxRecDepth 20000 in
theorem gX11_told_X8_get : GoodIn wsX11_told (wsV RX11 138 RX8 yX8_get wsX8_get) := goodIn_app (goodIn_of _ (by decide +kernel)) ggX11_told_X8_get
theorem dX11_told_0 : decode cX11_told 0 = .ok (.iload_n 1, 1) := by decide +kernel
theorem dX11_told_1 : decode cX11_told 1 = .ok (.tableswitch 180 0 12 #[67, 75, 83, 91, 99, 111, 120, 129, 138, 147, 156, 164, 172], 67) := by decide +kernel
theorem dX11_told_68 : decode cX11_told 68 = .ok (.aload_n 0, 1) := by decide +kernel
theorem dX11_told_69 : decode cX11_told 69 = .ok (.getfield 19, 3) := by decide +kernel
theorem dX11_told_72 : decode cX11_told 72 = .ok (.invokevirtual 125, 3) := by decide +kernel
theorem dX11_told_75 : decode cX11_told 75 = .ok (.ireturn, 1) := by decide +kernel
theorem dX11_told_76 : decode cX11_told 76 = .ok (.aload_n 0, 1) := by decide +kernel
theorem dX11_told_77 : decode cX11_told 77 = .ok (.getfield 19, 3) := by decide +kernel
theorem dX11_told_80 : decode cX11_told 80 = .ok (.getfield 132, 3) := by decide +kernel
theorem dX11_told_83 : decode cX11_told 83 = .ok (.ireturn, 1) := by decide +kernel
theorem dX11_told_84 : decode cX11_told 84 = .ok (.aload_n 0, 1) := by decide +kernel
theorem dX11_told_85 : decode cX11_told 85 = .ok (.getfield 19, 3) := by decide +kernel
theorem dX11_told_88 : decode cX11_told 88 = .ok (.getfield 135, 3) := by decide +kernel
theorem dX11_told_91 : decode cX11_told 91 = .ok (.ireturn, 1) := by decide +kernel
theorem dX11_told_92 : decode cX11_told 92 = .ok (.aload_n 0, 1) := by decide +kernel
theorem dX11_told_93 : decode cX11_told 93 = .ok (.getfield 12, 3) := by decide +kernel
theorem dX11_told_96 : decode cX11_told 96 = .ok (.getfield 96, 3) := by decide +kernel
theorem dX11_told_99 : decode cX11_told 99 = .ok (.ireturn, 1) := by decide +kernel
theorem dX11_told_100 : decode cX11_told 100 = .ok (.aload_n 0, 1) := by decide +kernel
theorem dX11_told_101 : decode cX11_told 101 = .ok (.getfield 35, 3) := by decide +kernel
theorem dX11_told_104 : decode cX11_told 104 = .ok (.iconst 0, 1) := by decide +kernel
theorem dX11_told_105 : decode cX11_told 105 = .ok (.invokevirtual 138, 3) := by decide +kernel
theorem dX11_told_108 : decode cX11_told 108 = .ok (.bipush 9, 2) := by decide +kernel
theorem dX11_told_110 : decode cX11_told 110 = .ok (.iadd, 1) := by decide +kernel
theorem dX11_told_111 : decode cX11_told 111 = .ok (.ireturn, 1) := by decide +kernel
theorem dX11_told_112 : decode cX11_told 112 = .ok (.aload_n 0, 1) := by decide +kernel
theorem dX11_told_113 : decode cX11_told 113 = .ok (.getfield 35, 3) := by decide +kernel
theorem dX11_told_116 : decode cX11_told 116 = .ok (.iconst 1, 1) := by decide +kernel
theorem dX11_told_117 : decode cX11_told 117 = .ok (.invokevirtual 138, 3) := by decide +kernel
theorem dX11_told_120 : decode cX11_told 120 = .ok (.ireturn, 1) := by decide +kernel
theorem dX11_told_121 : decode cX11_told 121 = .ok (.aload_n 0, 1) := by decide +kernel
theorem dX11_told_122 : decode cX11_told 122 = .ok (.getfield 35, 3) := by decide +kernel
theorem dX11_told_125 : decode cX11_told 125 = .ok (.iconst 2, 1) := by decide +kernel
theorem dX11_told_126 : decode cX11_told 126 = .ok (.invokevirtual 138, 3) := by decide +kernel
theorem dX11_told_129 : decode cX11_told 129 = .ok (.ireturn, 1) := by decide +kernel
theorem dX11_told_130 : decode cX11_told 130 = .ok (.aload_n 0, 1) := by decide +kernel
theorem dX11_told_131 : decode cX11_told 131 = .ok (.getfield 35, 3) := by decide +kernel
theorem dX11_told_134 : decode cX11_told 134 = .ok (.iconst 3, 1) := by decide +kernel
theorem dX11_told_135 : decode cX11_told 135 = .ok (.invokevirtual 138, 3) := by decide +kernel
theorem dX11_told_138 : decode cX11_told 138 = .ok (.ireturn, 1) := by decide +kernel
theorem dX11_told_139 : decode cX11_told 139 = .ok (.aload_n 0, 1) := by decide +kernel
theorem dX11_told_140 : decode cX11_told 140 = .ok (.getfield 35, 3) := by decide +kernel
theorem dX11_told_143 : decode cX11_told 143 = .ok (.iconst 4, 1) := by decide +kernel
theorem dX11_told_144 : decode cX11_told 144 = .ok (.invokevirtual 138, 3) := by decide +kernel
theorem dX11_told_147 : decode cX11_told 147 = .ok (.ireturn, 1) := by decide +kernel
theorem dX11_told_148 : decode cX11_told 148 = .ok (.aload_n 0, 1) := by decide +kernel
theorem dX11_told_149 : decode cX11_told 149 = .ok (.getfield 35, 3) := by decide +kernel
theorem dX11_told_152 : decode cX11_told 152 = .ok (.iconst 5, 1) := by decide +kernel
theorem dX11_told_153 : decode cX11_told 153 = .ok (.invokevirtual 138, 3) := by decide +kernel
theorem dX11_told_156 : decode cX11_told 156 = .ok (.ireturn, 1) := by decide +kernel
theorem dX11_told_157 : decode cX11_told 157 = .ok (.aload_n 0, 1) := by decide +kernel
theorem dX11_told_158 : decode cX11_told 158 = .ok (.getfield 75, 3) := by decide +kernel
theorem dX11_told_161 : decode cX11_told 161 = .ok (.getfield 121, 3) := by decide +kernel
theorem dX11_told_164 : decode cX11_told 164 = .ok (.ireturn, 1) := by decide +kernel
theorem dX11_told_165 : decode cX11_told 165 = .ok (.aload_n 0, 1) := by decide +kernel
theorem dX11_told_166 : decode cX11_told 166 = .ok (.getfield 82, 3) := by decide +kernel
theorem dX11_told_169 : decode cX11_told 169 = .ok (.getfield 124, 3) := by decide +kernel
theorem dX11_told_172 : decode cX11_told 172 = .ok (.ireturn, 1) := by decide +kernel
theorem dX11_told_173 : decode cX11_told 173 = .ok (.aload_n 0, 1) := by decide +kernel
theorem dX11_told_174 : decode cX11_told 174 = .ok (.getfield 42, 3) := by decide +kernel
theorem dX11_told_177 : decode cX11_told 177 = .ok (.getfield 142, 3) := by decide +kernel
theorem dX11_told_180 : decode cX11_told 180 = .ok (.ireturn, 1) := by decide +kernel
theorem dX11_told_181 : decode cX11_told 181 = .ok (.ldc 91, 2) := by decide +kernel
theorem dX11_told_183 : decode cX11_told 183 = .ok (.ireturn, 1) := by decide +kernel
set_option maxRecDepth 20000 in
theorem ggX11_thick_X5_isWall : GoodIn wsX11_thick wsX5_isWall := goodIn_r _ [8, 9, 31, 32, 33, 34, 35, 36, 37, 38, 39, 40] (by decide +kernel) (by decide +kernel)
set_option maxRecDepth 20000 in
theorem gX11_thick_X5_isWall : GoodIn wsX11_thick (wsV RX11 143 RX5 yX5_isWall wsX5_isWall) := goodIn_app (goodIn_of _ (by decide +kernel)) ggX11_thick_X5_isWall
set_option maxRecDepth 20000 in
theorem ggX11_thick_X8_get : GoodIn wsX11_thick wsX8_get := goodIn_r _ [14, 15, 16, 17, 18, 19, 41] (by decide +kernel) (by decide +kernel)
set_option maxRecDepth 20000 in
theorem gX11_thick_X8_get : GoodIn wsX11_thick (wsV RX11 138 RX8 yX8_get wsX8_get) := goodIn_app (goodIn_of _ (by decide +kernel)) ggX11_thick_X8_get
theorem dX11_thick_0 : decode cX11_thick 0 = .ok (.aload_n 0, 1) := by decide +kernel
theorem dX11_thick_1 : decode cX11_thick 1 = .ok (.getfield 19, 3) := by decide +kernel
theorem dX11_thick_4 : decode cX11_thick 4 = .ok (.iload_n 1, 1) := by decide +kernel
theorem dX11_thick_5 : decode cX11_thick 5 = .ok (.invokevirtual 143, 3) := by decide +kernel
theorem dX11_thick_8 : decode cX11_thick 8 = .ok (.ifCond .eq 17, 3) := by decide +kernel
theorem dX11_thick_11 : decode cX11_thick 11 = .ok (.aload_n 0, 1) := by decide +kernel
theorem dX11_thick_12 : decode cX11_thick 12 = .ok (.getfield 35, 3) := by decide +kernel
theorem dX11_thick_15 : decode cX11_thick 15 = .ok (.bipush 6, 2) := by decide +kernel
theorem dX11_thick_17 : decode cX11_thick 17 = .ok (.iload_n 1, 1) := by decide +kernel
theorem dX11_thick_18 : decode cX11_thick 18 = .ok (.iadd, 1) := by decide +kernel
theorem dX11_thick_19 : decode cX11_thick 19 = .ok (.invokevirtual 138, 3) := by decide +kernel
theorem dX11_thick_22 : decode cX11_thick 22 = .ok (.goto 5, 3) := by decide +kernel
theorem dX11_thick_25 : decode cX11_thick 25 = .ok (.ldc 146, 2) := by decide +kernel
theorem dX11_thick_27 : decode cX11_thick 27 = .ok (.ireturn, 1) := by decide +kernel
set_option maxRecDepth 20000 in
theorem ggX11_sound_X5_isSound : GoodIn wsX11_sound wsX5_isSound := goodIn_r _ [10, 11, 27, 28, 29, 30, 31, 32, 33, 34, 35, 36] (by decide +kernel) (by decide +kernel)
set_option maxRecDepth 20000 in
theorem gX11_sound_X5_isSound : GoodIn wsX11_sound (wsV RX11 147 RX5 yX5_isSound wsX5_isSound) := goodIn_app (goodIn_of _ (by decide +kernel)) ggX11_sound_X5_isSound
set_option maxRecDepth 20000 in
theorem ggX11_sound_X7_get : GoodIn wsX11_sound wsX7_get := goodIn_r _ [15] (by decide +kernel) (by decide +kernel)
set_option maxRecDepth 20000 in
theorem gX11_sound_X7_get : GoodIn wsX11_sound (va_wsS RX11 154 yX7_get wsX7_get) := goodIn_app (goodIn_of _ (by decide +kernel)) ggX11_sound_X7_get
theorem dX11_sound_0 : decode cX11_sound 0 = .ok (.aload_n 0, 1) := by decide +kernel
theorem dX11_sound_1 : decode cX11_sound 1 = .ok (.getfield 19, 3) := by decide +kernel
theorem dX11_sound_4 : decode cX11_sound 4 = .ok (.iload_n 1, 1) := by decide +kernel
theorem dX11_sound_5 : decode cX11_sound 5 = .ok (.invokevirtual 147, 3) := by decide +kernel
theorem dX11_sound_8 : decode cX11_sound 8 = .ok (.ifCond .ne 6, 3) := by decide +kernel
theorem dX11_sound_11 : decode cX11_sound 11 = .ok (.ldc 146, 2) := by decide +kernel
theorem dX11_sound_13 : decode cX11_sound 13 = .ok (.ireturn, 1) := by decide +kernel
theorem dX11_sound_14 : decode cX11_sound 14 = .ok (.iload_n 2, 1) := by decide +kernel
theorem dX11_sound_15 : decode cX11_sound 15 = .ok (.lookupswitch 49 #[(0, 25), (1, 37)], 25) := by decide +kernel
theorem dX11_sound_40 : decode cX11_sound 40 = .ok (.aload_n 0, 1) := by decide +kernel
theorem dX11_sound_41 : decode cX11_sound 41 = .ok (.getfield 19, 3) := by decide +kernel
theorem dX11_sound_44 : decode cX11_sound 44 = .ok (.getfield 150, 3) := by decide +kernel
theorem dX11_sound_47 : decode cX11_sound 47 = .ok (.iload_n 1, 1) := by decide +kernel
theorem dX11_sound_48 : decode cX11_sound 48 = .ok (.invokestatic 154, 3) := by decide +kernel
theorem dX11_sound_51 : decode cX11_sound 51 = .ok (.ireturn, 1) := by decide +kernel
theorem dX11_sound_52 : decode cX11_sound 52 = .ok (.aload_n 0, 1) := by decide +kernel
theorem dX11_sound_53 : decode cX11_sound 53 = .ok (.getfield 19, 3) := by decide +kernel
theorem dX11_sound_56 : decode cX11_sound 56 = .ok (.getfield 159, 3) := by decide +kernel
theorem dX11_sound_59 : decode cX11_sound 59 = .ok (.iload_n 1, 1) := by decide +kernel
theorem dX11_sound_60 : decode cX11_sound 60 = .ok (.invokestatic 154, 3) := by decide +kernel
theorem dX11_sound_63 : decode cX11_sound 63 = .ok (.ireturn, 1) := by decide +kernel
theorem dX11_sound_64 : decode cX11_sound 64 = .ok (.ldc 91, 2) := by decide +kernel
theorem dX11_sound_66 : decode cX11_sound 66 = .ok (.ireturn, 1) := by decide +kernel
set_option maxRecDepth 20000 in
theorem ggX11_witness_X5_isWitness : GoodIn wsX11_witness wsX5_isWitness := goodIn_r _ [11, 12, 35, 36, 37, 38, 39, 40, 41, 42, 43, 44] (by decide +kernel) (by decide +kernel)
set_option maxRecDepth 20000 in
theorem gX11_witness_X5_isWitness : GoodIn wsX11_witness (wsV RX11 162 RX5 yX5_isWitness wsX5_isWitness) := goodIn_app (goodIn_of _ (by decide +kernel)) ggX11_witness_X5_isWitness
set_option maxRecDepth 20000 in
theorem ggX11_witness_X8_get : GoodIn wsX11_witness wsX8_get := goodIn_r _ [17, 18, 19, 20, 21, 22, 45] (by decide +kernel) (by decide +kernel)
set_option maxRecDepth 20000 in
theorem gX11_witness_X8_get : GoodIn wsX11_witness (wsV RX11 138 RX8 yX8_get wsX8_get) := goodIn_app (goodIn_of _ (by decide +kernel)) ggX11_witness_X8_get
set_option maxRecDepth 20000 in
theorem ggX11_witness_X7_get : GoodIn wsX11_witness wsX7_get := goodIn_r _ [22] (by decide +kernel) (by decide +kernel)
set_option maxRecDepth 20000 in
theorem gX11_witness_X7_get : GoodIn wsX11_witness (va_wsS RX11 154 yX7_get wsX7_get) := goodIn_app (goodIn_of _ (by decide +kernel)) ggX11_witness_X7_get
theorem dX11_witness_0 : decode cX11_witness 0 = .ok (.aload_n 0, 1) := by decide +kernel
theorem dX11_witness_1 : decode cX11_witness 1 = .ok (.getfield 19, 3) := by decide +kernel
theorem dX11_witness_4 : decode cX11_witness 4 = .ok (.iload_n 1, 1) := by decide +kernel
theorem dX11_witness_5 : decode cX11_witness 5 = .ok (.invokevirtual 162, 3) := by decide +kernel
theorem dX11_witness_8 : decode cX11_witness 8 = .ok (.ifCond .ne 6, 3) := by decide +kernel
theorem dX11_witness_11 : decode cX11_witness 11 = .ok (.ldc 146, 2) := by decide +kernel
theorem dX11_witness_13 : decode cX11_witness 13 = .ok (.ireturn, 1) := by decide +kernel
theorem dX11_witness_14 : decode cX11_witness 14 = .ok (.iload_n 2, 1) := by decide +kernel
theorem dX11_witness_15 : decode cX11_witness 15 = .ok (.tableswitch 77 0 3 #[29, 41, 53, 65], 29) := by decide +kernel
theorem dX11_witness_44 : decode cX11_witness 44 = .ok (.aload_n 0, 1) := by decide +kernel
theorem dX11_witness_45 : decode cX11_witness 45 = .ok (.getfield 35, 3) := by decide +kernel
theorem dX11_witness_48 : decode cX11_witness 48 = .ok (.bipush 14, 2) := by decide +kernel
theorem dX11_witness_50 : decode cX11_witness 50 = .ok (.iload_n 1, 1) := by decide +kernel
theorem dX11_witness_51 : decode cX11_witness 51 = .ok (.iadd, 1) := by decide +kernel
theorem dX11_witness_52 : decode cX11_witness 52 = .ok (.invokevirtual 138, 3) := by decide +kernel
theorem dX11_witness_55 : decode cX11_witness 55 = .ok (.ireturn, 1) := by decide +kernel
theorem dX11_witness_56 : decode cX11_witness 56 = .ok (.aload_n 0, 1) := by decide +kernel
theorem dX11_witness_57 : decode cX11_witness 57 = .ok (.getfield 19, 3) := by decide +kernel
theorem dX11_witness_60 : decode cX11_witness 60 = .ok (.getfield 165, 3) := by decide +kernel
theorem dX11_witness_63 : decode cX11_witness 63 = .ok (.iload_n 1, 1) := by decide +kernel
theorem dX11_witness_64 : decode cX11_witness 64 = .ok (.invokestatic 154, 3) := by decide +kernel
theorem dX11_witness_67 : decode cX11_witness 67 = .ok (.ireturn, 1) := by decide +kernel
theorem dX11_witness_68 : decode cX11_witness 68 = .ok (.aload_n 0, 1) := by decide +kernel
theorem dX11_witness_69 : decode cX11_witness 69 = .ok (.getfield 19, 3) := by decide +kernel
theorem dX11_witness_72 : decode cX11_witness 72 = .ok (.getfield 168, 3) := by decide +kernel
theorem dX11_witness_75 : decode cX11_witness 75 = .ok (.iload_n 1, 1) := by decide +kernel
theorem dX11_witness_76 : decode cX11_witness 76 = .ok (.invokestatic 154, 3) := by decide +kernel
theorem dX11_witness_79 : decode cX11_witness 79 = .ok (.ireturn, 1) := by decide +kernel
theorem dX11_witness_80 : decode cX11_witness 80 = .ok (.aload_n 0, 1) := by decide +kernel
theorem dX11_witness_81 : decode cX11_witness 81 = .ok (.getfield 35, 3) := by decide +kernel
theorem dX11_witness_84 : decode cX11_witness 84 = .ok (.bipush 21, 2) := by decide +kernel
theorem dX11_witness_86 : decode cX11_witness 86 = .ok (.iload_n 1, 1) := by decide +kernel
theorem dX11_witness_87 : decode cX11_witness 87 = .ok (.iadd, 1) := by decide +kernel
theorem dX11_witness_88 : decode cX11_witness 88 = .ok (.invokevirtual 138, 3) := by decide +kernel
theorem dX11_witness_91 : decode cX11_witness 91 = .ok (.ireturn, 1) := by decide +kernel
theorem dX11_witness_92 : decode cX11_witness 92 = .ok (.ldc 91, 2) := by decide +kernel
theorem dX11_witness_94 : decode cX11_witness 94 = .ok (.ireturn, 1) := by decide +kernel
set_option maxRecDepth 20000 in
theorem ggX11_morning_X5_isSound : GoodIn wsX11_morning wsX5_isSound := goodIn_r _ [10, 11, 109, 110, 111, 112, 113, 114, 115, 116, 117, 118] (by decide +kernel) (by decide +kernel)
set_option maxRecDepth 20000 in
theorem gX11_morning_X5_isSound : GoodIn wsX11_morning (wsV RX11 147 RX5 yX5_isSound wsX5_isSound) := goodIn_app (goodIn_of _ (by decide +kernel)) ggX11_morning_X5_isSound
set_option maxRecDepth 20000 in
theorem ggX11_morning_X5_isPlace : GoodIn wsX11_morning wsX5_isPlace := goodIn_r _ [15, 16, 17, 18, 9, 19, 20, 109, 110, 111, 112, 113, 114, 115, 116, 117, 118] (by decide +kernel) (by decide +kernel)
set_option maxRecDepth 20000 in
theorem gX11_morning_X5_isPlace : GoodIn wsX11_morning (wsV RX11 171 RX5 yX5_isPlace wsX5_isPlace) := goodIn_app (goodIn_of _ (by decide +kernel)) ggX11_morning_X5_isPlace
set_option maxRecDepth 20000 in
theorem ggX11_morning_X11_isFullOfMornings : GoodIn wsX11_morning wsX11_isFullOfMornings := goodIn_r _ [25, 5, 26, 27, 28, 29, 30, 31, 32, 33, 34, 35, 98, 99, 100, 101, 102, 103, 104, 105, 106, 107, 108, 119] (by decide +kernel) (by decide +kernel)
set_option maxRecDepth 20000 in
theorem gX11_morning_X11_isFullOfMornings : GoodIn wsX11_morning (wsV RX11 174 RX11 yX11_isFullOfMornings wsX11_isFullOfMornings) := goodIn_app (goodIn_of _ (by decide +kernel)) ggX11_morning_X11_isFullOfMornings
set_option maxRecDepth 20000 in
theorem ggX11_morning_X4_push : GoodIn wsX11_morning wsX4_push := goodIn_r _ [40, 41, 42, 43, 44, 45, 46, 47, 48, 49, 50, 34, 51, 52, 33, 35, 53, 54, 55, 119, 120, 121, 122] (by decide +kernel) (by decide +kernel)
set_option maxRecDepth 20000 in
theorem gX11_morning_X4_push : GoodIn wsX11_morning (wsV RX11 178 RX4 yX4_push wsX4_push) := goodIn_app (goodIn_of _ (by decide +kernel)) ggX11_morning_X4_push
set_option maxRecDepth 20000 in
theorem ggX11_morning_X11_swear : GoodIn wsX11_morning wsX11_swear := goodIn_r _ [59, 5, 60, 1, 61, 26, 27, 28, 29, 30, 31, 32, 33, 34, 35, 62, 63, 64, 65, 66, 54, 55, 67, 68, 69, 70, 71, 72, 73, 74, 75, 76, 77, 78, 79, 80, 81, 82, 83, 84, 85, 86, 46, 47, 48, 87, 88, 89, 90, 91, 92, 93, 94, 95, 96, 97, 98, 99, 100, 101, 102, 103, 104, 105, 106, 107, 108, 109, 110, 111, 112, 113, 114, 115, 116, 117, 118, 119, 123, 124] (by decide +kernel) (by decide +kernel)
set_option maxRecDepth 20000 in
theorem gX11_morning_X11_swear : GoodIn wsX11_morning (wsV RX11 182 RX11 yX11_swear wsX11_swear) := goodIn_app (goodIn_of _ (by decide +kernel)) ggX11_morning_X11_swear
set_option maxRecDepth 20000 in
theorem ggX11_morning_X8_get : GoodIn wsX11_morning wsX8_get := goodIn_r _ [30, 31, 32, 33, 34, 35, 119] (by decide +kernel) (by decide +kernel)
set_option maxRecDepth 20000 in
theorem gX11_morning_X8_get : GoodIn wsX11_morning (wsV RX11 138 RX8 yX8_get wsX8_get) := goodIn_app (goodIn_of _ (by decide +kernel)) ggX11_morning_X8_get
theorem dX11_morning_0 : decode cX11_morning 0 = .ok (.aload_n 0, 1) := by decide +kernel
theorem dX11_morning_1 : decode cX11_morning 1 = .ok (.getfield 19, 3) := by decide +kernel
theorem dX11_morning_4 : decode cX11_morning 4 = .ok (.iload_n 1, 1) := by decide +kernel
theorem dX11_morning_5 : decode cX11_morning 5 = .ok (.invokevirtual 147, 3) := by decide +kernel
theorem dX11_morning_8 : decode cX11_morning 8 = .ok (.ifCond .eq 14, 3) := by decide +kernel
theorem dX11_morning_11 : decode cX11_morning 11 = .ok (.aload_n 0, 1) := by decide +kernel
theorem dX11_morning_12 : decode cX11_morning 12 = .ok (.getfield 19, 3) := by decide +kernel
theorem dX11_morning_15 : decode cX11_morning 15 = .ok (.iload_n 2, 1) := by decide +kernel
theorem dX11_morning_16 : decode cX11_morning 16 = .ok (.invokevirtual 171, 3) := by decide +kernel
theorem dX11_morning_19 : decode cX11_morning 19 = .ok (.ifCond .ne 6, 3) := by decide +kernel
theorem dX11_morning_22 : decode cX11_morning 22 = .ok (.ldc 146, 2) := by decide +kernel
theorem dX11_morning_24 : decode cX11_morning 24 = .ok (.ireturn, 1) := by decide +kernel
theorem dX11_morning_25 : decode cX11_morning 25 = .ok (.aload_n 0, 1) := by decide +kernel
theorem dX11_morning_26 : decode cX11_morning 26 = .ok (.invokevirtual 174, 3) := by decide +kernel
theorem dX11_morning_29 : decode cX11_morning 29 = .ok (.ifCond .eq 6, 3) := by decide +kernel
theorem dX11_morning_32 : decode cX11_morning 32 = .ok (.ldc 100, 2) := by decide +kernel
theorem dX11_morning_34 : decode cX11_morning 34 = .ok (.ireturn, 1) := by decide +kernel
theorem dX11_morning_35 : decode cX11_morning 35 = .ok (.aload_n 0, 1) := by decide +kernel
theorem dX11_morning_36 : decode cX11_morning 36 = .ok (.getfield 42, 3) := by decide +kernel
theorem dX11_morning_39 : decode cX11_morning 39 = .ok (.aload_n 0, 1) := by decide +kernel
theorem dX11_morning_40 : decode cX11_morning 40 = .ok (.getfield 35, 3) := by decide +kernel
theorem dX11_morning_43 : decode cX11_morning 43 = .ok (.invokevirtual 178, 3) := by decide +kernel
theorem dX11_morning_46 : decode cX11_morning 46 = .ok (.aload_n 0, 1) := by decide +kernel
theorem dX11_morning_47 : decode cX11_morning 47 = .ok (.iload_n 1, 1) := by decide +kernel
theorem dX11_morning_48 : decode cX11_morning 48 = .ok (.iload_n 2, 1) := by decide +kernel
theorem dX11_morning_49 : decode cX11_morning 49 = .ok (.invokevirtual 182, 3) := by decide +kernel
theorem dX11_morning_52 : decode cX11_morning 52 = .ok (.aload_n 0, 1) := by decide +kernel
theorem dX11_morning_53 : decode cX11_morning 53 = .ok (.getfield 35, 3) := by decide +kernel
theorem dX11_morning_56 : decode cX11_morning 56 = .ok (.iconst 4, 1) := by decide +kernel
theorem dX11_morning_57 : decode cX11_morning 57 = .ok (.invokevirtual 138, 3) := by decide +kernel
theorem dX11_morning_60 : decode cX11_morning 60 = .ok (.ireturn, 1) := by decide +kernel
set_option maxRecDepth 20000 in
theorem ggX11_move_X5_isWitness : GoodIn wsX11_move wsX5_isWitness := goodIn_r _ [7, 8, 71, 72, 73, 74, 75, 76, 77, 78, 79, 80] (by decide +kernel) (by decide +kernel)
set_option maxRecDepth 20000 in
theorem gX11_move_X5_isWitness : GoodIn wsX11_move (wsV RX11 162 RX5 yX5_isWitness wsX5_isWitness) := goodIn_app (goodIn_of _ (by decide +kernel)) ggX11_move_X5_isWitness
set_option maxRecDepth 20000 in
theorem ggX11_move_X5_isPlace : GoodIn wsX11_move wsX5_isPlace := goodIn_r _ [12, 13, 14, 15, 6, 16, 17, 71, 72, 73, 74, 75, 76, 77, 78, 79, 80] (by decide +kernel) (by decide +kernel)
set_option maxRecDepth 20000 in
theorem gX11_move_X5_isPlace : GoodIn wsX11_move (wsV RX11 171 RX5 yX5_isPlace wsX5_isPlace) := goodIn_app (goodIn_of _ (by decide +kernel)) ggX11_move_X5_isPlace
set_option maxRecDepth 20000 in
theorem ggX11_move_X11_change : GoodIn wsX11_move wsX11_change := goodIn_r _ [22, 23, 24, 25, 26, 27, 28, 29, 30, 31, 32, 33, 34, 35, 36, 37, 38, 39, 40, 41, 42, 43, 44, 45, 46, 47, 48, 49, 50, 51, 52, 53, 54, 55, 56, 57, 58, 59, 60, 61, 62, 63, 64, 65, 66, 67, 68, 69, 70, 81, 82, 83, 84] (by decide +kernel) (by decide +kernel)
set_option maxRecDepth 20000 in
theorem gX11_move_X11_change : GoodIn wsX11_move (wsV RX11 186 RX11 yX11_change wsX11_change) := goodIn_app (goodIn_of _ (by decide +kernel)) ggX11_move_X11_change
theorem dX11_move_0 : decode cX11_move 0 = .ok (.aload_n 0, 1) := by decide +kernel
theorem dX11_move_1 : decode cX11_move 1 = .ok (.getfield 19, 3) := by decide +kernel
theorem dX11_move_4 : decode cX11_move 4 = .ok (.iload_n 1, 1) := by decide +kernel
theorem dX11_move_5 : decode cX11_move 5 = .ok (.invokevirtual 162, 3) := by decide +kernel
theorem dX11_move_8 : decode cX11_move 8 = .ok (.ifCond .eq 14, 3) := by decide +kernel
theorem dX11_move_11 : decode cX11_move 11 = .ok (.aload_n 0, 1) := by decide +kernel
theorem dX11_move_12 : decode cX11_move 12 = .ok (.getfield 19, 3) := by decide +kernel
theorem dX11_move_15 : decode cX11_move 15 = .ok (.iload_n 2, 1) := by decide +kernel
theorem dX11_move_16 : decode cX11_move 16 = .ok (.invokevirtual 171, 3) := by decide +kernel
theorem dX11_move_19 : decode cX11_move 19 = .ok (.ifCond .ne 6, 3) := by decide +kernel
theorem dX11_move_22 : decode cX11_move 22 = .ok (.ldc 146, 2) := by decide +kernel
theorem dX11_move_24 : decode cX11_move 24 = .ok (.ireturn, 1) := by decide +kernel
theorem dX11_move_25 : decode cX11_move 25 = .ok (.aload_n 0, 1) := by decide +kernel
theorem dX11_move_26 : decode cX11_move 26 = .ok (.bipush 14, 2) := by decide +kernel
theorem dX11_move_28 : decode cX11_move 28 = .ok (.iload_n 1, 1) := by decide +kernel
theorem dX11_move_29 : decode cX11_move 29 = .ok (.iadd, 1) := by decide +kernel
theorem dX11_move_30 : decode cX11_move 30 = .ok (.iload_n 2, 1) := by decide +kernel
theorem dX11_move_31 : decode cX11_move 31 = .ok (.invokevirtual 186, 3) := by decide +kernel
theorem dX11_move_34 : decode cX11_move 34 = .ok (.ireturn, 1) := by decide +kernel
set_option maxRecDepth 20000 in
theorem ggX11_wall_X5_isWall : GoodIn wsX11_wall wsX5_isWall := goodIn_r _ [8, 9, 66, 67, 68, 69, 70, 71, 72, 73, 74, 75] (by decide +kernel) (by decide +kernel)
set_option maxRecDepth 20000 in
theorem gX11_wall_X5_isWall : GoodIn wsX11_wall (wsV RX11 143 RX5 yX5_isWall wsX5_isWall) := goodIn_app (goodIn_of _ (by decide +kernel)) ggX11_wall_X5_isWall
set_option maxRecDepth 20000 in
theorem ggX11_wall_X11_isOutside : GoodIn wsX11_wall wsX11_isOutside := goodIn_r _ [13] (by decide +kernel) (by decide +kernel)
set_option maxRecDepth 20000 in
theorem gX11_wall_X11_isOutside : GoodIn wsX11_wall (va_wsS RX11 87 yX11_isOutside wsX11_isOutside) := goodIn_app (goodIn_of _ (by decide +kernel)) ggX11_wall_X11_isOutside
set_option maxRecDepth 20000 in
theorem ggX11_wall_X11_change : GoodIn wsX11_wall wsX11_change := goodIn_r _ [17, 18, 19, 20, 21, 22, 23, 24, 25, 26, 27, 28, 29, 30, 31, 32, 33, 34, 35, 36, 37, 38, 39, 40, 41, 42, 43, 44, 45, 46, 47, 48, 49, 50, 51, 52, 53, 54, 55, 56, 57, 58, 59, 60, 61, 62, 63, 64, 65, 76, 77, 78, 79] (by decide +kernel) (by decide +kernel)
set_option maxRecDepth 20000 in
theorem gX11_wall_X11_change : GoodIn wsX11_wall (wsV RX11 186 RX11 yX11_change wsX11_change) := goodIn_app (goodIn_of _ (by decide +kernel)) ggX11_wall_X11_change
theorem dX11_wall_0 : decode cX11_wall 0 = .ok (.aload_n 0, 1) := by decide +kernel
theorem dX11_wall_1 : decode cX11_wall 1 = .ok (.getfield 19, 3) := by decide +kernel
theorem dX11_wall_4 : decode cX11_wall 4 = .ok (.iload_n 1, 1) := by decide +kernel
theorem dX11_wall_5 : decode cX11_wall 5 = .ok (.invokevirtual 143, 3) := by decide +kernel
theorem dX11_wall_8 : decode cX11_wall 8 = .ok (.ifCond .ne 6, 3) := by decide +kernel
theorem dX11_wall_11 : decode cX11_wall 11 = .ok (.ldc 146, 2) := by decide +kernel
theorem dX11_wall_13 : decode cX11_wall 13 = .ok (.ireturn, 1) := by decide +kernel
theorem dX11_wall_14 : decode cX11_wall 14 = .ok (.iload_n 2, 1) := by decide +kernel
theorem dX11_wall_15 : decode cX11_wall 15 = .ok (.bipush 20, 2) := by decide +kernel
theorem dX11_wall_17 : decode cX11_wall 17 = .ok (.invokestatic 87, 3) := by decide +kernel
theorem dX11_wall_20 : decode cX11_wall 20 = .ok (.ifCond .eq 6, 3) := by decide +kernel
theorem dX11_wall_23 : decode cX11_wall 23 = .ok (.ldc 91, 2) := by decide +kernel
theorem dX11_wall_25 : decode cX11_wall 25 = .ok (.ireturn, 1) := by decide +kernel
theorem dX11_wall_26 : decode cX11_wall 26 = .ok (.aload_n 0, 1) := by decide +kernel
theorem dX11_wall_27 : decode cX11_wall 27 = .ok (.bipush 6, 2) := by decide +kernel
theorem dX11_wall_29 : decode cX11_wall 29 = .ok (.iload_n 1, 1) := by decide +kernel
theorem dX11_wall_30 : decode cX11_wall 30 = .ok (.iadd, 1) := by decide +kernel
theorem dX11_wall_31 : decode cX11_wall 31 = .ok (.iload_n 2, 1) := by decide +kernel
theorem dX11_wall_32 : decode cX11_wall 32 = .ok (.invokevirtual 186, 3) := by decide +kernel
theorem dX11_wall_35 : decode cX11_wall 35 = .ok (.ireturn, 1) := by decide +kernel
set_option maxRecDepth 20000 in
theorem ggX11_wind_X11_isOutside : GoodIn wsX11_wind wsX11_isOutside := goodIn_r _ [7] (by decide +kernel) (by decide +kernel)
set_option maxRecDepth 20000 in
theorem gX11_wind_X11_isOutside : GoodIn wsX11_wind (va_wsS RX11 87 yX11_isOutside wsX11_isOutside) := goodIn_app (goodIn_of _ (by decide +kernel)) ggX11_wind_X11_isOutside
set_option maxRecDepth 20000 in
theorem ggX11_wind_X5_stands : GoodIn wsX11_wind wsX5_stands := goodIn_r _ [12, 13, 66, 67, 68, 69, 70, 71, 72, 73, 74, 75] (by decide +kernel) (by decide +kernel)
set_option maxRecDepth 20000 in
theorem gX11_wind_X5_stands : GoodIn wsX11_wind (wsV RX11 190 RX5 yX5_stands wsX5_stands) := goodIn_app (goodIn_of _ (by decide +kernel)) ggX11_wind_X5_stands
set_option maxRecDepth 20000 in
theorem ggX11_wind_X11_change : GoodIn wsX11_wind wsX11_change := goodIn_r _ [17, 18, 19, 20, 21, 22, 23, 24, 25, 26, 27, 28, 29, 30, 31, 32, 33, 34, 35, 36, 37, 38, 39, 40, 41, 42, 43, 44, 45, 46, 47, 48, 49, 50, 51, 52, 53, 54, 55, 56, 57, 58, 59, 60, 61, 62, 63, 64, 65, 76, 77, 78, 79] (by decide +kernel) (by decide +kernel)
set_option maxRecDepth 20000 in
theorem gX11_wind_X11_change : GoodIn wsX11_wind (wsV RX11 186 RX11 yX11_change wsX11_change) := goodIn_app (goodIn_of _ (by decide +kernel)) ggX11_wind_X11_change
theorem dX11_wind_0 : decode cX11_wind 0 = .ok (.iload_n 1, 1) := by decide +kernel
theorem dX11_wind_1 : decode cX11_wind 1 = .ok (.bipush 18, 2) := by decide +kernel
theorem dX11_wind_3 : decode cX11_wind 3 = .ok (.invokestatic 87, 3) := by decide +kernel
theorem dX11_wind_6 : decode cX11_wind 6 = .ok (.ifCond .eq 6, 3) := by decide +kernel
theorem dX11_wind_9 : decode cX11_wind 9 = .ok (.ldc 91, 2) := by decide +kernel
theorem dX11_wind_11 : decode cX11_wind 11 = .ok (.ireturn, 1) := by decide +kernel
theorem dX11_wind_12 : decode cX11_wind 12 = .ok (.aload_n 0, 1) := by decide +kernel
theorem dX11_wind_13 : decode cX11_wind 13 = .ok (.getfield 19, 3) := by decide +kernel
theorem dX11_wind_16 : decode cX11_wind 16 = .ok (.invokevirtual 190, 3) := by decide +kernel
theorem dX11_wind_19 : decode cX11_wind 19 = .ok (.ifCond .ne 6, 3) := by decide +kernel
theorem dX11_wind_22 : decode cX11_wind 22 = .ok (.ldc 193, 2) := by decide +kernel
theorem dX11_wind_24 : decode cX11_wind 24 = .ok (.ireturn, 1) := by decide +kernel
theorem dX11_wind_25 : decode cX11_wind 25 = .ok (.aload_n 0, 1) := by decide +kernel
theorem dX11_wind_26 : decode cX11_wind 26 = .ok (.iconst 0, 1) := by decide +kernel
theorem dX11_wind_27 : decode cX11_wind 27 = .ok (.iload_n 1, 1) := by decide +kernel
theorem dX11_wind_28 : decode cX11_wind 28 = .ok (.bipush 9, 2) := by decide +kernel
theorem dX11_wind_30 : decode cX11_wind 30 = .ok (.isub, 1) := by decide +kernel
theorem dX11_wind_31 : decode cX11_wind 31 = .ok (.invokevirtual 186, 3) := by decide +kernel
theorem dX11_wind_34 : decode cX11_wind 34 = .ok (.bipush 9, 2) := by decide +kernel
theorem dX11_wind_36 : decode cX11_wind 36 = .ok (.iadd, 1) := by decide +kernel
theorem dX11_wind_37 : decode cX11_wind 37 = .ok (.ireturn, 1) := by decide +kernel
set_option maxRecDepth 20000 in
theorem ggX11_drift_X5_stands : GoodIn wsX11_drift wsX5_stands := goodIn_r _ [12, 13, 115, 116, 117, 118, 119, 120, 121, 122, 123, 124] (by decide +kernel) (by decide +kernel)
set_option maxRecDepth 20000 in
theorem gX11_drift_X5_stands : GoodIn wsX11_drift (wsV RX11 190 RX5 yX5_stands wsX5_stands) := goodIn_app (goodIn_of _ (by decide +kernel)) ggX11_drift_X5_stands
set_option maxRecDepth 20000 in
theorem ggX11_drift_X11_isFullOfMornings : GoodIn wsX11_drift wsX11_isFullOfMornings := goodIn_r _ [18, 6, 19, 20, 21, 22, 23, 24, 25, 26, 27, 28, 104, 105, 106, 107, 108, 109, 110, 111, 112, 113, 114, 125] (by decide +kernel) (by decide +kernel)
set_option maxRecDepth 20000 in
theorem gX11_drift_X11_isFullOfMornings : GoodIn wsX11_drift (wsV RX11 174 RX11 yX11_isFullOfMornings wsX11_isFullOfMornings) := goodIn_app (goodIn_of _ (by decide +kernel)) ggX11_drift_X11_isFullOfMornings
set_option maxRecDepth 20000 in
theorem ggX11_drift_X4_push : GoodIn wsX11_drift wsX4_push := goodIn_r _ [33, 34, 35, 36, 37, 38, 39, 40, 41, 42, 43, 27, 44, 45, 26, 28, 46, 47, 48, 125, 126, 127, 128] (by decide +kernel) (by decide +kernel)
set_option maxRecDepth 20000 in
theorem gX11_drift_X4_push : GoodIn wsX11_drift (wsV RX11 178 RX4 yX4_push wsX4_push) := goodIn_app (goodIn_of _ (by decide +kernel)) ggX11_drift_X4_push
set_option maxRecDepth 20000 in
theorem ggX11_drift_X11_draw : GoodIn wsX11_drift wsX11_draw := goodIn_r _ [52, 53, 54, 55, 56, 57, 104, 105, 106, 107, 108, 109, 110, 111, 112, 113, 114] (by decide +kernel) (by decide +kernel)
set_option maxRecDepth 20000 in
theorem gX11_drift_X11_draw : GoodIn wsX11_drift (wsV RX11 194 RX11 yX11_draw wsX11_draw) := goodIn_app (goodIn_of _ (by decide +kernel)) ggX11_drift_X11_draw
set_option maxRecDepth 20000 in
theorem ggX11_drift_X5_places : GoodIn wsX11_drift wsX5_places := goodIn_r _ [61, 13, 115, 116, 117, 118, 119, 120, 121, 122, 123, 124] (by decide +kernel) (by decide +kernel)
set_option maxRecDepth 20000 in
theorem gX11_drift_X5_places : GoodIn wsX11_drift (wsV RX11 125 RX5 yX5_places wsX5_places) := goodIn_app (goodIn_of _ (by decide +kernel)) ggX11_drift_X5_places
set_option maxRecDepth 20000 in
theorem ggX11_drift_X11_swear : GoodIn wsX11_drift wsX11_swear := goodIn_r _ [65, 6, 66, 2, 67, 19, 20, 21, 22, 23, 24, 25, 26, 27, 28, 68, 69, 70, 71, 72, 47, 48, 73, 74, 75, 76, 77, 78, 79, 80, 81, 82, 83, 84, 85, 86, 87, 88, 89, 90, 91, 92, 39, 40, 41, 93, 94, 95, 96, 97, 98, 99, 100, 101, 102, 103, 104, 105, 106, 107, 108, 109, 110, 111, 112, 113, 114, 115, 116, 117, 118, 119, 120, 121, 122, 123, 124, 125, 129, 130] (by decide +kernel) (by decide +kernel)
set_option maxRecDepth 20000 in
theorem gX11_drift_X11_swear : GoodIn wsX11_drift (wsV RX11 182 RX11 yX11_swear wsX11_swear) := goodIn_app (goodIn_of _ (by decide +kernel)) ggX11_drift_X11_swear
set_option maxRecDepth 20000 in
theorem ggX11_drift_X8_put : GoodIn wsX11_drift wsX8_put := goodIn_r _ [71, 24, 72, 47, 27, 48, 125] (by decide +kernel) (by decide +kernel)
set_option maxRecDepth 20000 in
theorem gX11_drift_X8_put : GoodIn wsX11_drift (wsV RX11 197 RX8 yX8_put wsX8_put) := goodIn_app (goodIn_of _ (by decide +kernel)) ggX11_drift_X8_put
set_option maxRecDepth 20000 in
theorem ggX11_drift_X8_get : GoodIn wsX11_drift wsX8_get := goodIn_r _ [23, 24, 25, 26, 27, 28, 125] (by decide +kernel) (by decide +kernel)
set_option maxRecDepth 20000 in
theorem gX11_drift_X8_get : GoodIn wsX11_drift (wsV RX11 138 RX8 yX8_get wsX8_get) := goodIn_app (goodIn_of _ (by decide +kernel)) ggX11_drift_X8_get
theorem dX11_drift_0 : decode cX11_drift 0 = .ok (.iload_n 1, 1) := by decide +kernel
theorem dX11_drift_1 : decode cX11_drift 1 = .ok (.iconst 1, 1) := by decide +kernel
theorem dX11_drift_2 : decode cX11_drift 2 = .ok (.if_icmp .lt 9, 3) := by decide +kernel
theorem dX11_drift_5 : decode cX11_drift 5 = .ok (.iload_n 1, 1) := by decide +kernel
theorem dX11_drift_6 : decode cX11_drift 6 = .ok (.bipush 60, 2) := by decide +kernel
theorem dX11_drift_8 : decode cX11_drift 8 = .ok (.if_icmp .le 6, 3) := by decide +kernel
theorem dX11_drift_11 : decode cX11_drift 11 = .ok (.ldc 91, 2) := by decide +kernel
theorem dX11_drift_13 : decode cX11_drift 13 = .ok (.ireturn, 1) := by decide +kernel
theorem dX11_drift_14 : decode cX11_drift 14 = .ok (.aload_n 0, 1) := by decide +kernel
theorem dX11_drift_15 : decode cX11_drift 15 = .ok (.getfield 19, 3) := by decide +kernel
theorem dX11_drift_18 : decode cX11_drift 18 = .ok (.invokevirtual 190, 3) := by decide +kernel
theorem dX11_drift_21 : decode cX11_drift 21 = .ok (.ifCond .ne 6, 3) := by decide +kernel
theorem dX11_drift_24 : decode cX11_drift 24 = .ok (.ldc 193, 2) := by decide +kernel
theorem dX11_drift_26 : decode cX11_drift 26 = .ok (.ireturn, 1) := by decide +kernel
theorem dX11_drift_27 : decode cX11_drift 27 = .ok (.aload_n 0, 1) := by decide +kernel
theorem dX11_drift_28 : decode cX11_drift 28 = .ok (.invokevirtual 174, 3) := by decide +kernel
theorem dX11_drift_31 : decode cX11_drift 31 = .ok (.ifCond .eq 6, 3) := by decide +kernel
theorem dX11_drift_34 : decode cX11_drift 34 = .ok (.ldc 100, 2) := by decide +kernel
theorem dX11_drift_36 : decode cX11_drift 36 = .ok (.ireturn, 1) := by decide +kernel
theorem dX11_drift_37 : decode cX11_drift 37 = .ok (.aload_n 0, 1) := by decide +kernel
theorem dX11_drift_38 : decode cX11_drift 38 = .ok (.getfield 42, 3) := by decide +kernel
theorem dX11_drift_41 : decode cX11_drift 41 = .ok (.aload_n 0, 1) := by decide +kernel
theorem dX11_drift_42 : decode cX11_drift 42 = .ok (.getfield 35, 3) := by decide +kernel
theorem dX11_drift_45 : decode cX11_drift 45 = .ok (.invokevirtual 178, 3) := by decide +kernel
theorem dX11_drift_48 : decode cX11_drift 48 = .ok (.iconst 0, 1) := by decide +kernel
theorem dX11_drift_49 : decode cX11_drift 49 = .ok (.istore_n 2, 1) := by decide +kernel
theorem dX11_drift_50 : decode cX11_drift 50 = .ok (.iload_n 2, 1) := by decide +kernel
theorem dX11_drift_51 : decode cX11_drift 51 = .ok (.iload_n 1, 1) := by decide +kernel
theorem dX11_drift_52 : decode cX11_drift 52 = .ok (.if_icmp .ge 66, 3) := by decide +kernel
theorem dX11_drift_55 : decode cX11_drift 55 = .ok (.aload_n 0, 1) := by decide +kernel
theorem dX11_drift_56 : decode cX11_drift 56 = .ok (.getfield 19, 3) := by decide +kernel
theorem dX11_drift_59 : decode cX11_drift 59 = .ok (.getfield 132, 3) := by decide +kernel
theorem dX11_drift_62 : decode cX11_drift 62 = .ok (.ifCond .le 56, 3) := by decide +kernel
theorem dX11_drift_65 : decode cX11_drift 65 = .ok (.aload_n 0, 1) := by decide +kernel
theorem dX11_drift_66 : decode cX11_drift 66 = .ok (.aload_n 0, 1) := by decide +kernel
theorem dX11_drift_67 : decode cX11_drift 67 = .ok (.getfield 19, 3) := by decide +kernel
theorem dX11_drift_70 : decode cX11_drift 70 = .ok (.getfield 132, 3) := by decide +kernel
theorem dX11_drift_73 : decode cX11_drift 73 = .ok (.invokevirtual 194, 3) := by decide +kernel
theorem dX11_drift_76 : decode cX11_drift 76 = .ok (.istore_n 3, 1) := by decide +kernel
theorem dX11_drift_77 : decode cX11_drift 77 = .ok (.aload_n 0, 1) := by decide +kernel
theorem dX11_drift_78 : decode cX11_drift 78 = .ok (.aload_n 0, 1) := by decide +kernel
theorem dX11_drift_79 : decode cX11_drift 79 = .ok (.getfield 19, 3) := by decide +kernel
theorem dX11_drift_82 : decode cX11_drift 82 = .ok (.invokevirtual 125, 3) := by decide +kernel
theorem dX11_drift_85 : decode cX11_drift 85 = .ok (.invokevirtual 194, 3) := by decide +kernel
theorem dX11_drift_88 : decode cX11_drift 88 = .ok (.istore 4, 2) := by decide +kernel
theorem dX11_drift_90 : decode cX11_drift 90 = .ok (.aload_n 0, 1) := by decide +kernel
theorem dX11_drift_91 : decode cX11_drift 91 = .ok (.iload_n 3, 1) := by decide +kernel
theorem dX11_drift_92 : decode cX11_drift 92 = .ok (.iload 4, 2) := by decide +kernel
theorem dX11_drift_94 : decode cX11_drift 94 = .ok (.invokevirtual 182, 3) := by decide +kernel
theorem dX11_drift_97 : decode cX11_drift 97 = .ok (.aload_n 0, 1) := by decide +kernel
theorem dX11_drift_98 : decode cX11_drift 98 = .ok (.getfield 35, 3) := by decide +kernel
theorem dX11_drift_101 : decode cX11_drift 101 = .ok (.iconst 0, 1) := by decide +kernel
theorem dX11_drift_102 : decode cX11_drift 102 = .ok (.aload_n 0, 1) := by decide +kernel
theorem dX11_drift_103 : decode cX11_drift 103 = .ok (.iconst 5, 1) := by decide +kernel
theorem dX11_drift_104 : decode cX11_drift 104 = .ok (.invokevirtual 194, 3) := by decide +kernel
theorem dX11_drift_107 : decode cX11_drift 107 = .ok (.iconst 2, 1) := by decide +kernel
theorem dX11_drift_108 : decode cX11_drift 108 = .ok (.isub, 1) := by decide +kernel
theorem dX11_drift_109 : decode cX11_drift 109 = .ok (.invokevirtual 197, 3) := by decide +kernel
theorem dX11_drift_112 : decode cX11_drift 112 = .ok (.iinc 2 1, 3) := by decide +kernel
theorem dX11_drift_115 : decode cX11_drift 115 = .ok (.goto (-65), 3) := by decide +kernel
theorem dX11_drift_118 : decode cX11_drift 118 = .ok (.aload_n 0, 1) := by decide +kernel
theorem dX11_drift_119 : decode cX11_drift 119 = .ok (.getfield 35, 3) := by decide +kernel
theorem dX11_drift_122 : decode cX11_drift 122 = .ok (.iconst 4, 1) := by decide +kernel
theorem dX11_drift_123 : decode cX11_drift 123 = .ok (.invokevirtual 138, 3) := by decide +kernel
theorem dX11_drift_126 : decode cX11_drift 126 = .ok (.ireturn, 1) := by decide +kernel
set_option maxRecDepth 20000 in
theorem ggX11_undo_X4_pop : GoodIn wsX11_undo wsX4_pop := goodIn_r _ [9, 10, 11, 12, 13, 14, 15, 16, 17, 18, 19, 20, 21, 22, 23, 35, 36, 37, 38] (by decide +kernel) (by decide +kernel)
set_option maxRecDepth 20000 in
theorem gX11_undo_X4_pop : GoodIn wsX11_undo (wsV RX11 200 RX4 yX4_pop wsX4_pop) := goodIn_app (goodIn_of _ (by decide +kernel)) ggX11_undo_X4_pop
theorem dX11_undo_0 : decode cX11_undo 0 = .ok (.aload_n 0, 1) := by decide +kernel
theorem dX11_undo_1 : decode cX11_undo 1 = .ok (.getfield 42, 3) := by decide +kernel
theorem dX11_undo_4 : decode cX11_undo 4 = .ok (.aload_n 0, 1) := by decide +kernel
theorem dX11_undo_5 : decode cX11_undo 5 = .ok (.getfield 35, 3) := by decide +kernel
theorem dX11_undo_8 : decode cX11_undo 8 = .ok (.invokevirtual 200, 3) := by decide +kernel
theorem dX11_undo_11 : decode cX11_undo 11 = .ok (.ifCond .eq 13, 3) := by decide +kernel
theorem dX11_undo_14 : decode cX11_undo 14 = .ok (.aload_n 0, 1) := by decide +kernel
theorem dX11_undo_15 : decode cX11_undo 15 = .ok (.getfield 42, 3) := by decide +kernel
theorem dX11_undo_18 : decode cX11_undo 18 = .ok (.getfield 142, 3) := by decide +kernel
theorem dX11_undo_21 : decode cX11_undo 21 = .ok (.goto 5, 3) := by decide +kernel
theorem dX11_undo_24 : decode cX11_undo 24 = .ok (.ldc 193, 2) := by decide +kernel
theorem dX11_undo_26 : decode cX11_undo 26 = .ok (.ireturn, 1) := by decide +kernel
set_option maxRecDepth 20000 in
theorem ggX11_comes_X5_isSound : GoodIn wsX11_comes wsX5_isSound := goodIn_r _ [8, 9, 50, 51, 52, 53, 54, 55, 56, 57, 58, 59] (by decide +kernel) (by decide +kernel)
set_option maxRecDepth 20000 in
theorem gX11_comes_X5_isSound : GoodIn wsX11_comes (wsV RX11 147 RX5 yX5_isSound wsX5_isSound) := goodIn_app (goodIn_of _ (by decide +kernel)) ggX11_comes_X5_isSound
set_option maxRecDepth 20000 in
theorem ggX11_comes_X5_isPlace : GoodIn wsX11_comes wsX5_isPlace := goodIn_r _ [13, 14, 15, 16, 7, 17, 18, 50, 51, 52, 53, 54, 55, 56, 57, 58, 59] (by decide +kernel) (by decide +kernel)
set_option maxRecDepth 20000 in
theorem gX11_comes_X5_isPlace : GoodIn wsX11_comes (wsV RX11 171 RX5 yX5_isPlace wsX5_isPlace) := goodIn_app (goodIn_of _ (by decide +kernel)) ggX11_comes_X5_isPlace
set_option maxRecDepth 20000 in
theorem ggX11_comes_X2_loudness : GoodIn wsX11_comes wsX2_loudness := goodIn_r _ [23, 24, 25, 26, 27, 28, 29, 30, 31, 32, 33, 34, 35, 36, 37, 38, 60, 61, 50, 51, 52, 53, 54, 55, 56, 57, 58, 59, 62] (by decide +kernel) (by decide +kernel)
set_option maxRecDepth 20000 in
theorem gX11_comes_X2_loudness : GoodIn wsX11_comes (wsV RX11 204 RX2 yX2_loudness wsX2_loudness) := goodIn_app (goodIn_of _ (by decide +kernel)) ggX11_comes_X2_loudness
theorem dX11_comes_0 : decode cX11_comes 0 = .ok (.aload_n 0, 1) := by decide +kernel
theorem dX11_comes_1 : decode cX11_comes 1 = .ok (.getfield 19, 3) := by decide +kernel
theorem dX11_comes_4 : decode cX11_comes 4 = .ok (.iload_n 1, 1) := by decide +kernel
theorem dX11_comes_5 : decode cX11_comes 5 = .ok (.invokevirtual 147, 3) := by decide +kernel
theorem dX11_comes_8 : decode cX11_comes 8 = .ok (.ifCond .eq 25, 3) := by decide +kernel
theorem dX11_comes_11 : decode cX11_comes 11 = .ok (.aload_n 0, 1) := by decide +kernel
theorem dX11_comes_12 : decode cX11_comes 12 = .ok (.getfield 19, 3) := by decide +kernel
theorem dX11_comes_15 : decode cX11_comes 15 = .ok (.iload_n 2, 1) := by decide +kernel
theorem dX11_comes_16 : decode cX11_comes 16 = .ok (.invokevirtual 171, 3) := by decide +kernel
theorem dX11_comes_19 : decode cX11_comes 19 = .ok (.ifCond .eq 14, 3) := by decide +kernel
theorem dX11_comes_22 : decode cX11_comes 22 = .ok (.aload_n 0, 1) := by decide +kernel
theorem dX11_comes_23 : decode cX11_comes 23 = .ok (.getfield 19, 3) := by decide +kernel
theorem dX11_comes_26 : decode cX11_comes 26 = .ok (.iload_n 3, 1) := by decide +kernel
theorem dX11_comes_27 : decode cX11_comes 27 = .ok (.invokevirtual 171, 3) := by decide +kernel
theorem dX11_comes_30 : decode cX11_comes 30 = .ok (.ifCond .ne 6, 3) := by decide +kernel
theorem dX11_comes_33 : decode cX11_comes 33 = .ok (.ldc 146, 2) := by decide +kernel
theorem dX11_comes_35 : decode cX11_comes 35 = .ok (.ireturn, 1) := by decide +kernel
theorem dX11_comes_36 : decode cX11_comes 36 = .ok (.aload_n 0, 1) := by decide +kernel
theorem dX11_comes_37 : decode cX11_comes 37 = .ok (.getfield 57, 3) := by decide +kernel
theorem dX11_comes_40 : decode cX11_comes 40 = .ok (.iload_n 1, 1) := by decide +kernel
theorem dX11_comes_41 : decode cX11_comes 41 = .ok (.iload_n 2, 1) := by decide +kernel
theorem dX11_comes_42 : decode cX11_comes 42 = .ok (.iload_n 3, 1) := by decide +kernel
theorem dX11_comes_43 : decode cX11_comes 43 = .ok (.invokevirtual 204, 3) := by decide +kernel
theorem dX11_comes_46 : decode cX11_comes 46 = .ok (.sipush 1000, 3) := by decide +kernel
theorem dX11_comes_49 : decode cX11_comes 49 = .ok (.iadd, 1) := by decide +kernel
theorem dX11_comes_50 : decode cX11_comes 50 = .ok (.ireturn, 1) := by decide +kernel
set_option maxRecDepth 20000 in
theorem ggX11_says_X5_isWitness : GoodIn wsX11_says wsX5_isWitness := goodIn_r _ [8, 9, 67, 68, 69, 70, 71, 72, 73, 74, 75, 76] (by decide +kernel) (by decide +kernel)
set_option maxRecDepth 20000 in
theorem gX11_says_X5_isWitness : GoodIn wsX11_says (wsV RX11 162 RX5 yX5_isWitness wsX5_isWitness) := goodIn_app (goodIn_of _ (by decide +kernel)) ggX11_says_X5_isWitness
set_option maxRecDepth 20000 in
theorem ggX11_says_X5_isSound : GoodIn wsX11_says wsX5_isSound := goodIn_r _ [13, 14, 67, 68, 69, 70, 71, 72, 73, 74, 75, 76] (by decide +kernel) (by decide +kernel)
set_option maxRecDepth 20000 in
theorem gX11_says_X5_isSound : GoodIn wsX11_says (wsV RX11 147 RX5 yX5_isSound wsX5_isSound) := goodIn_app (goodIn_of _ (by decide +kernel)) ggX11_says_X5_isSound
set_option maxRecDepth 20000 in
theorem ggX11_says_X5_isPlace : GoodIn wsX11_says wsX5_isPlace := goodIn_r _ [18, 19, 20, 21, 7, 22, 23, 67, 68, 69, 70, 71, 72, 73, 74, 75, 76] (by decide +kernel) (by decide +kernel)
set_option maxRecDepth 20000 in
theorem gX11_says_X5_isPlace : GoodIn wsX11_says (wsV RX11 171 RX5 yX5_isPlace wsX5_isPlace) := goodIn_app (goodIn_of _ (by decide +kernel)) ggX11_says_X5_isPlace
set_option maxRecDepth 20000 in
theorem ggX11_says_X2_saying : GoodIn wsX11_says wsX2_saying := goodIn_r _ [28, 29, 30, 31, 32, 33, 34, 35, 36, 37, 38, 39, 27, 40, 41, 42, 43, 44, 45, 46, 47, 48, 49, 50, 51, 52, 53, 54, 55, 77, 78, 67, 68, 69, 70, 71, 72, 73, 74, 75, 76, 79] (by decide +kernel) (by decide +kernel)
set_option maxRecDepth 20000 in
theorem gX11_says_X2_saying : GoodIn wsX11_says (wsV RX11 208 RX2 yX2_saying wsX2_saying) := goodIn_app (goodIn_of _ (by decide +kernel)) ggX11_says_X2_saying
theorem dX11_says_0 : decode cX11_says 0 = .ok (.aload_n 0, 1) := by decide +kernel
theorem dX11_says_1 : decode cX11_says 1 = .ok (.getfield 19, 3) := by decide +kernel
theorem dX11_says_4 : decode cX11_says 4 = .ok (.iload_n 1, 1) := by decide +kernel
theorem dX11_says_5 : decode cX11_says 5 = .ok (.invokevirtual 162, 3) := by decide +kernel
theorem dX11_says_8 : decode cX11_says 8 = .ok (.ifCond .eq 25, 3) := by decide +kernel
theorem dX11_says_11 : decode cX11_says 11 = .ok (.aload_n 0, 1) := by decide +kernel
theorem dX11_says_12 : decode cX11_says 12 = .ok (.getfield 19, 3) := by decide +kernel
theorem dX11_says_15 : decode cX11_says 15 = .ok (.iload_n 2, 1) := by decide +kernel
theorem dX11_says_16 : decode cX11_says 16 = .ok (.invokevirtual 147, 3) := by decide +kernel
theorem dX11_says_19 : decode cX11_says 19 = .ok (.ifCond .eq 14, 3) := by decide +kernel
theorem dX11_says_22 : decode cX11_says 22 = .ok (.aload_n 0, 1) := by decide +kernel
theorem dX11_says_23 : decode cX11_says 23 = .ok (.getfield 19, 3) := by decide +kernel
theorem dX11_says_26 : decode cX11_says 26 = .ok (.iload_n 3, 1) := by decide +kernel
theorem dX11_says_27 : decode cX11_says 27 = .ok (.invokevirtual 171, 3) := by decide +kernel
theorem dX11_says_30 : decode cX11_says 30 = .ok (.ifCond .ne 6, 3) := by decide +kernel
theorem dX11_says_33 : decode cX11_says 33 = .ok (.ldc 146, 2) := by decide +kernel
theorem dX11_says_35 : decode cX11_says 35 = .ok (.ireturn, 1) := by decide +kernel
theorem dX11_says_36 : decode cX11_says 36 = .ok (.aload_n 0, 1) := by decide +kernel
theorem dX11_says_37 : decode cX11_says 37 = .ok (.getfield 57, 3) := by decide +kernel
theorem dX11_says_40 : decode cX11_says 40 = .ok (.iload_n 1, 1) := by decide +kernel
theorem dX11_says_41 : decode cX11_says 41 = .ok (.iload_n 2, 1) := by decide +kernel
theorem dX11_says_42 : decode cX11_says 42 = .ok (.iload_n 3, 1) := by decide +kernel
theorem dX11_says_43 : decode cX11_says 43 = .ok (.invokevirtual 208, 3) := by decide +kernel
theorem dX11_says_46 : decode cX11_says 46 = .ok (.ireturn, 1) := by decide +kernel
set_option maxRecDepth 20000 in
theorem ggX11_listen_X5_isSound : GoodIn wsX11_listen wsX5_isSound := goodIn_r _ [9, 10, 63, 64, 65, 66, 67, 68, 69, 70, 71, 72] (by decide +kernel) (by decide +kernel)
set_option maxRecDepth 20000 in
theorem gX11_listen_X5_isSound : GoodIn wsX11_listen (wsV RX11 147 RX5 yX5_isSound wsX5_isSound) := goodIn_app (goodIn_of _ (by decide +kernel)) ggX11_listen_X5_isSound
set_option maxRecDepth 20000 in
theorem ggX11_listen_X5_isPlace : GoodIn wsX11_listen wsX5_isPlace := goodIn_r _ [14, 15, 16, 17, 8, 18, 19, 63, 64, 65, 66, 67, 68, 69, 70, 71, 72] (by decide +kernel) (by decide +kernel)
set_option maxRecDepth 20000 in
theorem gX11_listen_X5_isPlace : GoodIn wsX11_listen (wsV RX11 171 RX5 yX5_isPlace wsX5_isPlace) := goodIn_app (goodIn_of _ (by decide +kernel)) ggX11_listen_X5_isPlace
set_option maxRecDepth 20000 in
theorem ggX11_listen_X11_isOutside : GoodIn wsX11_listen wsX11_isOutside := goodIn_r _ [23] (by decide +kernel) (by decide +kernel)
set_option maxRecDepth 20000 in
theorem gX11_listen_X11_isOutside : GoodIn wsX11_listen (va_wsS RX11 87 yX11_isOutside wsX11_isOutside) := goodIn_app (goodIn_of _ (by decide +kernel)) ggX11_listen_X11_isOutside
set_option maxRecDepth 20000 in
theorem ggX11_listen_X10_listeners : GoodIn wsX11_listen wsX10_listeners := goodIn_r _ [28, 29, 30, 31, 16, 17, 8, 18, 19, 32, 33, 34, 35, 36, 37, 38, 39, 40, 41, 42, 43, 44, 45, 46, 47, 48, 49, 50, 51, 73, 74, 75, 76, 63, 64, 65, 66, 67, 68, 69, 70, 71, 72, 77, 78, 79] (by decide +kernel) (by decide +kernel)
set_option maxRecDepth 20000 in
theorem gX11_listen_X10_listeners : GoodIn wsX11_listen (wsV RX11 211 RX10 yX10_listeners wsX10_listeners) := goodIn_app (goodIn_of _ (by decide +kernel)) ggX11_listen_X10_listeners
theorem dX11_listen_0 : decode cX11_listen 0 = .ok (.aload_n 0, 1) := by decide +kernel
theorem dX11_listen_1 : decode cX11_listen 1 = .ok (.getfield 19, 3) := by decide +kernel
theorem dX11_listen_4 : decode cX11_listen 4 = .ok (.iload_n 1, 1) := by decide +kernel
theorem dX11_listen_5 : decode cX11_listen 5 = .ok (.invokevirtual 147, 3) := by decide +kernel
theorem dX11_listen_8 : decode cX11_listen 8 = .ok (.ifCond .eq 14, 3) := by decide +kernel
theorem dX11_listen_11 : decode cX11_listen 11 = .ok (.aload_n 0, 1) := by decide +kernel
theorem dX11_listen_12 : decode cX11_listen 12 = .ok (.getfield 19, 3) := by decide +kernel
theorem dX11_listen_15 : decode cX11_listen 15 = .ok (.iload_n 2, 1) := by decide +kernel
theorem dX11_listen_16 : decode cX11_listen 16 = .ok (.invokevirtual 171, 3) := by decide +kernel
theorem dX11_listen_19 : decode cX11_listen 19 = .ok (.ifCond .ne 6, 3) := by decide +kernel
theorem dX11_listen_22 : decode cX11_listen 22 = .ok (.ldc 146, 2) := by decide +kernel
theorem dX11_listen_24 : decode cX11_listen 24 = .ok (.ireturn, 1) := by decide +kernel
theorem dX11_listen_25 : decode cX11_listen 25 = .ok (.iload_n 3, 1) := by decide +kernel
theorem dX11_listen_26 : decode cX11_listen 26 = .ok (.bipush 30, 2) := by decide +kernel
theorem dX11_listen_28 : decode cX11_listen 28 = .ok (.invokestatic 87, 3) := by decide +kernel
theorem dX11_listen_31 : decode cX11_listen 31 = .ok (.ifCond .eq 8, 3) := by decide +kernel
theorem dX11_listen_34 : decode cX11_listen 34 = .ok (.ldc 91, 2) := by decide +kernel
theorem dX11_listen_36 : decode cX11_listen 36 = .ok (.goto 13, 3) := by decide +kernel
theorem dX11_listen_39 : decode cX11_listen 39 = .ok (.aload_n 0, 1) := by decide +kernel
theorem dX11_listen_40 : decode cX11_listen 40 = .ok (.getfield 66, 3) := by decide +kernel
theorem dX11_listen_43 : decode cX11_listen 43 = .ok (.iload_n 1, 1) := by decide +kernel
theorem dX11_listen_44 : decode cX11_listen 44 = .ok (.iload_n 2, 1) := by decide +kernel
theorem dX11_listen_45 : decode cX11_listen 45 = .ok (.iload_n 3, 1) := by decide +kernel
theorem dX11_listen_46 : decode cX11_listen 46 = .ok (.invokevirtual 211, 3) := by decide +kernel
theorem dX11_listen_49 : decode cX11_listen 49 = .ok (.ireturn, 1) := by decide +kernel
set_option maxRecDepth 20000 in
theorem ggX11_deaf_X5_isSound : GoodIn wsX11_deaf wsX5_isSound := goodIn_r _ [8, 9, 63, 64, 65, 66, 67, 68, 69, 70, 71, 72] (by decide +kernel) (by decide +kernel)
set_option maxRecDepth 20000 in
theorem gX11_deaf_X5_isSound : GoodIn wsX11_deaf (wsV RX11 147 RX5 yX5_isSound wsX5_isSound) := goodIn_app (goodIn_of _ (by decide +kernel)) ggX11_deaf_X5_isSound
set_option maxRecDepth 20000 in
theorem ggX11_deaf_X10_unheard : GoodIn wsX11_deaf wsX10_unheard := goodIn_r _ [14, 15, 16, 17, 18, 19, 7, 20, 21, 22, 23, 24, 25, 26, 27, 28, 29, 30, 31, 32, 33, 34, 35, 36, 37, 38, 39, 40, 41, 42, 43, 44, 45, 46, 47, 48, 49, 50, 51, 73, 74, 75, 76, 63, 64, 65, 66, 67, 68, 69, 70, 71, 72, 77, 78, 79] (by decide +kernel) (by decide +kernel)
set_option maxRecDepth 20000 in
theorem gX11_deaf_X10_unheard : GoodIn wsX11_deaf (wsV RX11 214 RX10 yX10_unheard wsX10_unheard) := goodIn_app (goodIn_of _ (by decide +kernel)) ggX11_deaf_X10_unheard
theorem dX11_deaf_0 : decode cX11_deaf 0 = .ok (.aload_n 0, 1) := by decide +kernel
theorem dX11_deaf_1 : decode cX11_deaf 1 = .ok (.getfield 19, 3) := by decide +kernel
theorem dX11_deaf_4 : decode cX11_deaf 4 = .ok (.iload_n 1, 1) := by decide +kernel
theorem dX11_deaf_5 : decode cX11_deaf 5 = .ok (.invokevirtual 147, 3) := by decide +kernel
theorem dX11_deaf_8 : decode cX11_deaf 8 = .ok (.ifCond .eq 14, 3) := by decide +kernel
theorem dX11_deaf_11 : decode cX11_deaf 11 = .ok (.aload_n 0, 1) := by decide +kernel
theorem dX11_deaf_12 : decode cX11_deaf 12 = .ok (.getfield 66, 3) := by decide +kernel
theorem dX11_deaf_15 : decode cX11_deaf 15 = .ok (.iload_n 1, 1) := by decide +kernel
theorem dX11_deaf_16 : decode cX11_deaf 16 = .ok (.invokevirtual 214, 3) := by decide +kernel
theorem dX11_deaf_19 : decode cX11_deaf 19 = .ok (.goto 5, 3) := by decide +kernel
theorem dX11_deaf_22 : decode cX11_deaf 22 = .ok (.ldc 146, 2) := by decide +kernel
theorem dX11_deaf_24 : decode cX11_deaf 24 = .ok (.ireturn, 1) := by decide +kernel
set_option maxRecDepth 20000 in
theorem ggX11_ears_X5_isSound : GoodIn wsX11_ears wsX5_isSound := goodIn_r _ [9, 10, 83, 84, 85, 86, 87, 88, 89, 90, 91, 92] (by decide +kernel) (by decide +kernel)
set_option maxRecDepth 20000 in
theorem gX11_ears_X5_isSound : GoodIn wsX11_ears (wsV RX11 147 RX5 yX5_isSound wsX5_isSound) := goodIn_app (goodIn_of _ (by decide +kernel)) ggX11_ears_X5_isSound
set_option maxRecDepth 20000 in
theorem ggX11_ears_X5_arePlaces : GoodIn wsX11_ears wsX5_arePlaces := goodIn_r _ [14, 15, 16, 17, 8, 18, 19, 83, 84, 85, 86, 87, 88, 89, 90, 91, 92] (by decide +kernel) (by decide +kernel)
set_option maxRecDepth 20000 in
theorem gX11_ears_X5_arePlaces : GoodIn wsX11_ears (wsV RX11 217 RX5 yX5_arePlaces wsX5_arePlaces) := goodIn_app (goodIn_of _ (by decide +kernel)) ggX11_ears_X5_arePlaces
set_option maxRecDepth 20000 in
theorem ggX11_ears_X11_isOutside : GoodIn wsX11_ears wsX11_isOutside := goodIn_r _ [23] (by decide +kernel) (by decide +kernel)
set_option maxRecDepth 20000 in
theorem gX11_ears_X11_isOutside : GoodIn wsX11_ears (va_wsS RX11 87 yX11_isOutside wsX11_isOutside) := goodIn_app (goodIn_of _ (by decide +kernel)) ggX11_ears_X11_isOutside
set_option maxRecDepth 20000 in
theorem ggX11_ears_X10_fewestEars : GoodIn wsX11_ears wsX10_fewestEars := goodIn_r _ [28, 29, 30, 31, 16, 17, 8, 18, 19, 32, 33, 34, 27, 35, 36, 37, 38, 39, 40, 41, 42, 43, 44, 45, 46, 47, 48, 49, 50, 51, 52, 53, 54, 55, 56, 57, 58, 59, 60, 61, 62, 63, 64, 65, 66, 67, 68, 69, 70, 71, 93, 94, 95, 96, 83, 84, 85, 86, 87, 88, 89, 90, 91, 92, 97, 98, 99] (by decide +kernel) (by decide +kernel)
set_option maxRecDepth 20000 in
theorem gX11_ears_X10_fewestEars : GoodIn wsX11_ears (wsV RX11 220 RX10 yX10_fewestEars wsX10_fewestEars) := goodIn_app (goodIn_of _ (by decide +kernel)) ggX11_ears_X10_fewestEars
theorem dX11_ears_0 : decode cX11_ears 0 = .ok (.aload_n 0, 1) := by decide +kernel
theorem dX11_ears_1 : decode cX11_ears 1 = .ok (.getfield 19, 3) := by decide +kernel
theorem dX11_ears_4 : decode cX11_ears 4 = .ok (.iload_n 1, 1) := by decide +kernel
theorem dX11_ears_5 : decode cX11_ears 5 = .ok (.invokevirtual 147, 3) := by decide +kernel
theorem dX11_ears_8 : decode cX11_ears 8 = .ok (.ifCond .eq 14, 3) := by decide +kernel
theorem dX11_ears_11 : decode cX11_ears 11 = .ok (.aload_n 0, 1) := by decide +kernel
theorem dX11_ears_12 : decode cX11_ears 12 = .ok (.getfield 19, 3) := by decide +kernel
theorem dX11_ears_15 : decode cX11_ears 15 = .ok (.iload_n 2, 1) := by decide +kernel
theorem dX11_ears_16 : decode cX11_ears 16 = .ok (.invokevirtual 217, 3) := by decide +kernel
theorem dX11_ears_19 : decode cX11_ears 19 = .ok (.ifCond .ne 6, 3) := by decide +kernel
theorem dX11_ears_22 : decode cX11_ears 22 = .ok (.ldc 146, 2) := by decide +kernel
theorem dX11_ears_24 : decode cX11_ears 24 = .ok (.ireturn, 1) := by decide +kernel
theorem dX11_ears_25 : decode cX11_ears 25 = .ok (.iload_n 3, 1) := by decide +kernel
theorem dX11_ears_26 : decode cX11_ears 26 = .ok (.bipush 30, 2) := by decide +kernel
theorem dX11_ears_28 : decode cX11_ears 28 = .ok (.invokestatic 87, 3) := by decide +kernel
theorem dX11_ears_31 : decode cX11_ears 31 = .ok (.ifCond .eq 8, 3) := by decide +kernel
theorem dX11_ears_34 : decode cX11_ears 34 = .ok (.ldc 91, 2) := by decide +kernel
theorem dX11_ears_36 : decode cX11_ears 36 = .ok (.goto 13, 3) := by decide +kernel
theorem dX11_ears_39 : decode cX11_ears 39 = .ok (.aload_n 0, 1) := by decide +kernel
theorem dX11_ears_40 : decode cX11_ears 40 = .ok (.getfield 66, 3) := by decide +kernel
theorem dX11_ears_43 : decode cX11_ears 43 = .ok (.iload_n 1, 1) := by decide +kernel
theorem dX11_ears_44 : decode cX11_ears 44 = .ok (.iload_n 2, 1) := by decide +kernel
theorem dX11_ears_45 : decode cX11_ears 45 = .ok (.iload_n 3, 1) := by decide +kernel
theorem dX11_ears_46 : decode cX11_ears 46 = .ok (.invokevirtual 220, 3) := by decide +kernel
theorem dX11_ears_49 : decode cX11_ears 49 = .ok (.ireturn, 1) := by decide +kernel
set_option maxRecDepth 20000 in
theorem ggX11_alike_X5_isPlace : GoodIn wsX11_alike wsX5_isPlace := goodIn_r _ [8, 9, 10, 11, 7, 12, 13, 70, 71, 72, 73, 74, 75, 76, 77, 78, 79] (by decide +kernel) (by decide +kernel)
set_option maxRecDepth 20000 in
theorem gX11_alike_X5_isPlace : GoodIn wsX11_alike (wsV RX11 171 RX5 yX5_isPlace wsX5_isPlace) := goodIn_app (goodIn_of _ (by decide +kernel)) ggX11_alike_X5_isPlace
set_option maxRecDepth 20000 in
theorem ggX11_alike_X10_alikePair : GoodIn wsX11_alike wsX10_alikePair := goodIn_r _ [18, 19, 20, 21, 22, 23, 17, 24, 25, 26, 27, 28, 29, 30, 31, 32, 33, 34, 35, 36, 37, 38, 39, 40, 41, 42, 43, 44, 45, 46, 47, 48, 49, 50, 51, 52, 53, 54, 55, 56, 57, 58, 80, 81, 82, 83, 70, 71, 72, 73, 74, 75, 76, 77, 78, 79, 84, 85, 86] (by decide +kernel) (by decide +kernel)
set_option maxRecDepth 20000 in
theorem gX11_alike_X10_alikePair : GoodIn wsX11_alike (wsV RX11 223 RX10 yX10_alikePair wsX10_alikePair) := goodIn_app (goodIn_of _ (by decide +kernel)) ggX11_alike_X10_alikePair
theorem dX11_alike_0 : decode cX11_alike 0 = .ok (.aload_n 0, 1) := by decide +kernel
theorem dX11_alike_1 : decode cX11_alike 1 = .ok (.getfield 19, 3) := by decide +kernel
theorem dX11_alike_4 : decode cX11_alike 4 = .ok (.iload_n 1, 1) := by decide +kernel
theorem dX11_alike_5 : decode cX11_alike 5 = .ok (.invokevirtual 171, 3) := by decide +kernel
theorem dX11_alike_8 : decode cX11_alike 8 = .ok (.ifCond .eq 15, 3) := by decide +kernel
theorem dX11_alike_11 : decode cX11_alike 11 = .ok (.aload_n 0, 1) := by decide +kernel
theorem dX11_alike_12 : decode cX11_alike 12 = .ok (.getfield 66, 3) := by decide +kernel
theorem dX11_alike_15 : decode cX11_alike 15 = .ok (.iload_n 1, 1) := by decide +kernel
theorem dX11_alike_16 : decode cX11_alike 16 = .ok (.iload_n 2, 1) := by decide +kernel
theorem dX11_alike_17 : decode cX11_alike 17 = .ok (.invokevirtual 223, 3) := by decide +kernel
theorem dX11_alike_20 : decode cX11_alike 20 = .ok (.goto 5, 3) := by decide +kernel
theorem dX11_alike_23 : decode cX11_alike 23 = .ok (.ldc 146, 2) := by decide +kernel
theorem dX11_alike_25 : decode cX11_alike 25 = .ok (.ireturn, 1) := by decide +kernel
set_option maxRecDepth 20000 in
theorem ggX11_hides_X5_isWall : GoodIn wsX11_hides wsX5_isWall := goodIn_r _ [8, 9, 77, 78, 79, 80, 81, 82, 83, 84, 85, 86] (by decide +kernel) (by decide +kernel)
set_option maxRecDepth 20000 in
theorem gX11_hides_X5_isWall : GoodIn wsX11_hides (wsV RX11 143 RX5 yX5_isWall wsX5_isWall) := goodIn_app (goodIn_of _ (by decide +kernel)) ggX11_hides_X5_isWall
set_option maxRecDepth 20000 in
theorem ggX11_hides_X5_isSound : GoodIn wsX11_hides wsX5_isSound := goodIn_r _ [13, 14, 77, 78, 79, 80, 81, 82, 83, 84, 85, 86] (by decide +kernel) (by decide +kernel)
set_option maxRecDepth 20000 in
theorem gX11_hides_X5_isSound : GoodIn wsX11_hides (wsV RX11 147 RX5 yX5_isSound wsX5_isSound) := goodIn_app (goodIn_of _ (by decide +kernel)) ggX11_hides_X5_isSound
set_option maxRecDepth 20000 in
theorem ggX11_hides_X5_isPlace : GoodIn wsX11_hides wsX5_isPlace := goodIn_r _ [18, 19, 20, 21, 7, 22, 9, 77, 78, 79, 80, 81, 82, 83, 84, 85, 86] (by decide +kernel) (by decide +kernel)
set_option maxRecDepth 20000 in
theorem gX11_hides_X5_isPlace : GoodIn wsX11_hides (wsV RX11 171 RX5 yX5_isPlace wsX5_isPlace) := goodIn_app (goodIn_of _ (by decide +kernel)) ggX11_hides_X5_isPlace
set_option maxRecDepth 20000 in
theorem ggX11_hides_X10_hidingThickness : GoodIn wsX11_hides wsX10_hidingThickness := goodIn_r _ [27, 28, 29, 30, 31, 32, 33, 34, 35, 36, 37, 38, 39, 40, 41, 42, 43, 44, 45, 46, 47, 48, 49, 50, 51, 52, 53, 54, 55, 56, 57, 58, 59, 60, 61, 62, 63, 64, 65, 87, 88, 89, 90, 77, 78, 79, 80, 81, 82, 83, 84, 85, 86, 91, 92, 93] (by decide +kernel) (by decide +kernel)
set_option maxRecDepth 20000 in
theorem gX11_hides_X10_hidingThickness : GoodIn wsX11_hides (wsV RX11 226 RX10 yX10_hidingThickness wsX10_hidingThickness) := goodIn_app (goodIn_of _ (by decide +kernel)) ggX11_hides_X10_hidingThickness
theorem dX11_hides_0 : decode cX11_hides 0 = .ok (.aload_n 0, 1) := by decide +kernel
theorem dX11_hides_1 : decode cX11_hides 1 = .ok (.getfield 19, 3) := by decide +kernel
theorem dX11_hides_4 : decode cX11_hides 4 = .ok (.iload_n 1, 1) := by decide +kernel
theorem dX11_hides_5 : decode cX11_hides 5 = .ok (.invokevirtual 143, 3) := by decide +kernel
theorem dX11_hides_8 : decode cX11_hides 8 = .ok (.ifCond .eq 25, 3) := by decide +kernel
theorem dX11_hides_11 : decode cX11_hides 11 = .ok (.aload_n 0, 1) := by decide +kernel
theorem dX11_hides_12 : decode cX11_hides 12 = .ok (.getfield 19, 3) := by decide +kernel
theorem dX11_hides_15 : decode cX11_hides 15 = .ok (.iload_n 2, 1) := by decide +kernel
theorem dX11_hides_16 : decode cX11_hides 16 = .ok (.invokevirtual 147, 3) := by decide +kernel
theorem dX11_hides_19 : decode cX11_hides 19 = .ok (.ifCond .eq 14, 3) := by decide +kernel
theorem dX11_hides_22 : decode cX11_hides 22 = .ok (.aload_n 0, 1) := by decide +kernel
theorem dX11_hides_23 : decode cX11_hides 23 = .ok (.getfield 19, 3) := by decide +kernel
theorem dX11_hides_26 : decode cX11_hides 26 = .ok (.iload_n 3, 1) := by decide +kernel
theorem dX11_hides_27 : decode cX11_hides 27 = .ok (.invokevirtual 171, 3) := by decide +kernel
theorem dX11_hides_30 : decode cX11_hides 30 = .ok (.ifCond .ne 6, 3) := by decide +kernel
theorem dX11_hides_33 : decode cX11_hides 33 = .ok (.ldc 146, 2) := by decide +kernel
theorem dX11_hides_35 : decode cX11_hides 35 = .ok (.ireturn, 1) := by decide +kernel
theorem dX11_hides_36 : decode cX11_hides 36 = .ok (.aload_n 0, 1) := by decide +kernel
theorem dX11_hides_37 : decode cX11_hides 37 = .ok (.getfield 66, 3) := by decide +kernel
theorem dX11_hides_40 : decode cX11_hides 40 = .ok (.iload_n 1, 1) := by decide +kernel
theorem dX11_hides_41 : decode cX11_hides 41 = .ok (.iload_n 2, 1) := by decide +kernel
theorem dX11_hides_42 : decode cX11_hides 42 = .ok (.iload_n 3, 1) := by decide +kernel
theorem dX11_hides_43 : decode cX11_hides 43 = .ok (.invokevirtual 226, 3) := by decide +kernel
theorem dX11_hides_46 : decode cX11_hides 46 = .ok (.ireturn, 1) := by decide +kernel
set_option maxRecDepth 20000 in
theorem ggX11_midwife_X11_isOutside : GoodIn wsX11_midwife wsX11_isOutside := goodIn_r _ [5] (by decide +kernel) (by decide +kernel)
set_option maxRecDepth 20000 in
theorem gX11_midwife_X11_isOutside : GoodIn wsX11_midwife (va_wsS RX11 87 yX11_isOutside wsX11_isOutside) := goodIn_app (goodIn_of _ (by decide +kernel)) ggX11_midwife_X11_isOutside
theorem dX11_midwife_0 : decode cX11_midwife 0 = .ok (.iload_n 2, 1) := by decide +kernel
theorem dX11_midwife_1 : decode cX11_midwife 1 = .ok (.sipush 9999, 3) := by decide +kernel
theorem dX11_midwife_4 : decode cX11_midwife 4 = .ok (.invokestatic 87, 3) := by decide +kernel
theorem dX11_midwife_7 : decode cX11_midwife 7 = .ok (.ifCond .ne 34, 3) := by decide +kernel
theorem dX11_midwife_10 : decode cX11_midwife 10 = .ok (.iload_n 3, 1) := by decide +kernel
theorem dX11_midwife_11 : decode cX11_midwife 11 = .ok (.sipush 9999, 3) := by decide +kernel
theorem dX11_midwife_14 : decode cX11_midwife 14 = .ok (.invokestatic 87, 3) := by decide +kernel
theorem dX11_midwife_17 : decode cX11_midwife 17 = .ok (.ifCond .ne 24, 3) := by decide +kernel
theorem dX11_midwife_20 : decode cX11_midwife 20 = .ok (.iload 4, 2) := by decide +kernel
theorem dX11_midwife_22 : decode cX11_midwife 22 = .ok (.sipush 9999, 3) := by decide +kernel
theorem dX11_midwife_25 : decode cX11_midwife 25 = .ok (.invokestatic 87, 3) := by decide +kernel
theorem dX11_midwife_28 : decode cX11_midwife 28 = .ok (.ifCond .ne 13, 3) := by decide +kernel
theorem dX11_midwife_31 : decode cX11_midwife 31 = .ok (.iload 5, 2) := by decide +kernel
theorem dX11_midwife_33 : decode cX11_midwife 33 = .ok (.bipush 100, 2) := by decide +kernel
theorem dX11_midwife_35 : decode cX11_midwife 35 = .ok (.invokestatic 87, 3) := by decide +kernel
theorem dX11_midwife_38 : decode cX11_midwife 38 = .ok (.ifCond .eq 6, 3) := by decide +kernel
theorem dX11_midwife_41 : decode cX11_midwife 41 = .ok (.ldc 91, 2) := by decide +kernel
theorem dX11_midwife_43 : decode cX11_midwife 43 = .ok (.ireturn, 1) := by decide +kernel
theorem dX11_midwife_44 : decode cX11_midwife 44 = .ok (.iload 4, 2) := by decide +kernel
theorem dX11_midwife_46 : decode cX11_midwife 46 = .ok (.iload 5, 2) := by decide +kernel
theorem dX11_midwife_48 : decode cX11_midwife 48 = .ok (.imul, 1) := by decide +kernel
theorem dX11_midwife_49 : decode cX11_midwife 49 = .ok (.bipush 100, 2) := by decide +kernel
theorem dX11_midwife_51 : decode cX11_midwife 51 = .ok (.idiv, 1) := by decide +kernel
theorem dX11_midwife_52 : decode cX11_midwife 52 = .ok (.istore 6, 2) := by decide +kernel
theorem dX11_midwife_54 : decode cX11_midwife 54 = .ok (.iload_n 1, 1) := by decide +kernel
theorem dX11_midwife_55 : decode cX11_midwife 55 = .ok (.ifCond .eq 17, 3) := by decide +kernel
theorem dX11_midwife_58 : decode cX11_midwife 58 = .ok (.iload_n 3, 1) := by decide +kernel
theorem dX11_midwife_59 : decode cX11_midwife 59 = .ok (.iload 6, 2) := by decide +kernel
theorem dX11_midwife_61 : decode cX11_midwife 61 = .ok (.isub, 1) := by decide +kernel
theorem dX11_midwife_62 : decode cX11_midwife 62 = .ok (.iload_n 2, 1) := by decide +kernel
theorem dX11_midwife_63 : decode cX11_midwife 63 = .ok (.if_icmp .le 7, 3) := by decide +kernel
theorem dX11_midwife_66 : decode cX11_midwife 66 = .ok (.iconst 0, 1) := by decide +kernel
theorem dX11_midwife_67 : decode cX11_midwife 67 = .ok (.goto 4, 3) := by decide +kernel
theorem dX11_midwife_70 : decode cX11_midwife 70 = .ok (.iconst 1, 1) := by decide +kernel
theorem dX11_midwife_71 : decode cX11_midwife 71 = .ok (.ireturn, 1) := by decide +kernel
theorem dX11_midwife_72 : decode cX11_midwife 72 = .ok (.iload_n 2, 1) := by decide +kernel
theorem dX11_midwife_73 : decode cX11_midwife 73 = .ok (.iload 6, 2) := by decide +kernel
theorem dX11_midwife_75 : decode cX11_midwife 75 = .ok (.isub, 1) := by decide +kernel
theorem dX11_midwife_76 : decode cX11_midwife 76 = .ok (.iload_n 3, 1) := by decide +kernel
theorem dX11_midwife_77 : decode cX11_midwife 77 = .ok (.if_icmp .le 7, 3) := by decide +kernel
theorem dX11_midwife_80 : decode cX11_midwife 80 = .ok (.iconst 1, 1) := by decide +kernel
theorem dX11_midwife_81 : decode cX11_midwife 81 = .ok (.goto 4, 3) := by decide +kernel
theorem dX11_midwife_84 : decode cX11_midwife 84 = .ok (.iconst 0, 1) := by decide +kernel
theorem dX11_midwife_85 : decode cX11_midwife 85 = .ok (.ireturn, 1) := by decide +kernel
set_option maxRecDepth 20000 in
theorem ggX11_bargain_X11_isOutside : GoodIn wsX11_bargain wsX11_isOutside := goodIn_r _ [14] (by decide +kernel) (by decide +kernel)
set_option maxRecDepth 20000 in
theorem gX11_bargain_X11_isOutside : GoodIn wsX11_bargain (va_wsS RX11 87 yX11_isOutside wsX11_isOutside) := goodIn_app (goodIn_of _ (by decide +kernel)) ggX11_bargain_X11_isOutside
theorem dX11_bargain_0 : decode cX11_bargain 0 = .ok (.iload_n 1, 1) := by decide +kernel
theorem dX11_bargain_1 : decode cX11_bargain 1 = .ok (.sipush 9999, 3) := by decide +kernel
theorem dX11_bargain_4 : decode cX11_bargain 4 = .ok (.invokestatic 87, 3) := by decide +kernel
theorem dX11_bargain_7 : decode cX11_bargain 7 = .ok (.ifCond .ne 31, 3) := by decide +kernel
theorem dX11_bargain_10 : decode cX11_bargain 10 = .ok (.iload_n 2, 1) := by decide +kernel
theorem dX11_bargain_11 : decode cX11_bargain 11 = .ok (.ldc 229, 2) := by decide +kernel
theorem dX11_bargain_13 : decode cX11_bargain 13 = .ok (.invokestatic 87, 3) := by decide +kernel
theorem dX11_bargain_16 : decode cX11_bargain 16 = .ok (.ifCond .ne 22, 3) := by decide +kernel
theorem dX11_bargain_19 : decode cX11_bargain 19 = .ok (.iload_n 3, 1) := by decide +kernel
theorem dX11_bargain_20 : decode cX11_bargain 20 = .ok (.sipush 999, 3) := by decide +kernel
theorem dX11_bargain_23 : decode cX11_bargain 23 = .ok (.invokestatic 87, 3) := by decide +kernel
theorem dX11_bargain_26 : decode cX11_bargain 26 = .ok (.ifCond .ne 12, 3) := by decide +kernel
theorem dX11_bargain_29 : decode cX11_bargain 29 = .ok (.iload 4, 2) := by decide +kernel
theorem dX11_bargain_31 : decode cX11_bargain 31 = .ok (.iconst 1, 1) := by decide +kernel
theorem dX11_bargain_32 : decode cX11_bargain 32 = .ok (.invokestatic 87, 3) := by decide +kernel
theorem dX11_bargain_35 : decode cX11_bargain 35 = .ok (.ifCond .eq 6, 3) := by decide +kernel
theorem dX11_bargain_38 : decode cX11_bargain 38 = .ok (.ldc 91, 2) := by decide +kernel
theorem dX11_bargain_40 : decode cX11_bargain 40 = .ok (.ireturn, 1) := by decide +kernel
theorem dX11_bargain_41 : decode cX11_bargain 41 = .ok (.iload_n 1, 1) := by decide +kernel
theorem dX11_bargain_42 : decode cX11_bargain 42 = .ok (.i2l, 1) := by decide +kernel
theorem dX11_bargain_43 : decode cX11_bargain 43 = .ok (.iload_n 2, 1) := by decide +kernel
theorem dX11_bargain_44 : decode cX11_bargain 44 = .ok (.i2l, 1) := by decide +kernel
theorem dX11_bargain_45 : decode cX11_bargain 45 = .ok (.lmul, 1) := by decide +kernel
theorem dX11_bargain_46 : decode cX11_bargain 46 = .ok (.ldc2_w 230, 3) := by decide +kernel
theorem dX11_bargain_49 : decode cX11_bargain 49 = .ok (.ldiv, 1) := by decide +kernel
theorem dX11_bargain_50 : decode cX11_bargain 50 = .ok (.lstore 5, 2) := by decide +kernel
theorem dX11_bargain_52 : decode cX11_bargain 52 = .ok (.lload 5, 2) := by decide +kernel
theorem dX11_bargain_54 : decode cX11_bargain 54 = .ok (.l2i, 1) := by decide +kernel
theorem dX11_bargain_55 : decode cX11_bargain 55 = .ok (.iload_n 3, 1) := by decide +kernel
theorem dX11_bargain_56 : decode cX11_bargain 56 = .ok (.isub, 1) := by decide +kernel
theorem dX11_bargain_57 : decode cX11_bargain 57 = .ok (.iconst 0, 1) := by decide +kernel
theorem dX11_bargain_58 : decode cX11_bargain 58 = .ok (.invokestatic 232, 3) := by decide +kernel
theorem dX11_bargain_61 : decode cX11_bargain 61 = .ok (.istore 7, 2) := by decide +kernel
theorem dX11_bargain_63 : decode cX11_bargain 63 = .ok (.iload 4, 2) := by decide +kernel
theorem dX11_bargain_65 : decode cX11_bargain 65 = .ok (.ifCond .ne 8, 3) := by decide +kernel
theorem dX11_bargain_68 : decode cX11_bargain 68 = .ok (.iload 7, 2) := by decide +kernel
theorem dX11_bargain_70 : decode cX11_bargain 70 = .ok (.goto 13, 3) := by decide +kernel
theorem dX11_bargain_73 : decode cX11_bargain 73 = .ok (.iload 7, 2) := by decide +kernel
theorem dX11_bargain_75 : decode cX11_bargain 75 = .ok (.iconst 2, 1) := by decide +kernel
theorem dX11_bargain_76 : decode cX11_bargain 76 = .ok (.iload_n 3, 1) := by decide +kernel
theorem dX11_bargain_77 : decode cX11_bargain 77 = .ok (.imul, 1) := by decide +kernel
theorem dX11_bargain_78 : decode cX11_bargain 78 = .ok (.iadd, 1) := by decide +kernel
theorem dX11_bargain_79 : decode cX11_bargain 79 = .ok (.iload_n 1, 1) := by decide +kernel
theorem dX11_bargain_80 : decode cX11_bargain 80 = .ok (.invokestatic 237, 3) := by decide +kernel
theorem dX11_bargain_83 : decode cX11_bargain 83 = .ok (.ireturn, 1) := by decide +kernel
set_option maxRecDepth 20000 in
theorem ggX11_found_X5_arePlaces : GoodIn wsX11_found wsX5_arePlaces := goodIn_r _ [8, 9, 10, 11, 7, 12, 13, 76, 77, 78, 79, 80, 81, 82, 83, 84, 85] (by decide +kernel) (by decide +kernel)
set_option maxRecDepth 20000 in
theorem gX11_found_X5_arePlaces : GoodIn wsX11_found (wsV RX11 217 RX5 yX5_arePlaces wsX5_arePlaces) := goodIn_app (goodIn_of _ (by decide +kernel)) ggX11_found_X5_arePlaces
set_option maxRecDepth 20000 in
theorem ggX11_found_X10_oddsOfHearing : GoodIn wsX11_found wsX10_oddsOfHearing := goodIn_r _ [18, 19, 20, 21, 22, 23, 24, 25, 26, 27, 28, 29, 30, 31, 17, 32, 33, 34, 10, 11, 7, 12, 13, 35, 36, 37, 38, 39, 40, 41, 42, 43, 44, 45, 46, 47, 48, 49, 50, 51, 52, 53, 54, 55, 56, 57, 58, 59, 60, 61, 62, 63, 64, 86, 87, 88, 89, 76, 77, 78, 79, 80, 81, 82, 83, 84, 85, 90, 91, 92] (by decide +kernel) (by decide +kernel)
set_option maxRecDepth 20000 in
theorem gX11_found_X10_oddsOfHearing : GoodIn wsX11_found (wsV RX11 240 RX10 yX10_oddsOfHearing wsX10_oddsOfHearing) := goodIn_app (goodIn_of _ (by decide +kernel)) ggX11_found_X10_oddsOfHearing
theorem dX11_found_0 : decode cX11_found 0 = .ok (.aload_n 0, 1) := by decide +kernel
theorem dX11_found_1 : decode cX11_found 1 = .ok (.getfield 19, 3) := by decide +kernel
theorem dX11_found_4 : decode cX11_found 4 = .ok (.iload_n 1, 1) := by decide +kernel
theorem dX11_found_5 : decode cX11_found 5 = .ok (.invokevirtual 217, 3) := by decide +kernel
theorem dX11_found_8 : decode cX11_found 8 = .ok (.ifCond .eq 14, 3) := by decide +kernel
theorem dX11_found_11 : decode cX11_found 11 = .ok (.aload_n 0, 1) := by decide +kernel
theorem dX11_found_12 : decode cX11_found 12 = .ok (.getfield 66, 3) := by decide +kernel
theorem dX11_found_15 : decode cX11_found 15 = .ok (.iload_n 1, 1) := by decide +kernel
theorem dX11_found_16 : decode cX11_found 16 = .ok (.invokevirtual 240, 3) := by decide +kernel
theorem dX11_found_19 : decode cX11_found 19 = .ok (.goto 5, 3) := by decide +kernel
theorem dX11_found_22 : decode cX11_found 22 = .ok (.ldc 146, 2) := by decide +kernel
theorem dX11_found_24 : decode cX11_found 24 = .ok (.ireturn, 1) := by decide +kernel
set_option maxRecDepth 20000 in
theorem ggX11_say_X5_isWitness : GoodIn wsX11_say wsX5_isWitness := goodIn_r _ [11, 12, 48, 49, 50, 51, 52, 53, 54, 55, 56, 57] (by decide +kernel) (by decide +kernel)
set_option maxRecDepth 20000 in
theorem gX11_say_X5_isWitness : GoodIn wsX11_say (wsV RX11 162 RX5 yX5_isWitness wsX5_isWitness) := goodIn_app (goodIn_of _ (by decide +kernel)) ggX11_say_X5_isWitness
set_option maxRecDepth 20000 in
theorem ggX11_say_X11_isOutside : GoodIn wsX11_say wsX11_isOutside := goodIn_r _ [16] (by decide +kernel) (by decide +kernel)
set_option maxRecDepth 20000 in
theorem gX11_say_X11_isOutside : GoodIn wsX11_say (va_wsS RX11 87 yX11_isOutside wsX11_isOutside) := goodIn_app (goodIn_of _ (by decide +kernel)) ggX11_say_X11_isOutside
set_option maxRecDepth 20000 in
theorem ggX11_say_X1_add : GoodIn wsX11_say wsX1_add := goodIn_r _ [21, 22, 23, 24, 25, 26, 27, 28, 40, 41, 42, 43, 44, 45, 46, 47] (by decide +kernel) (by decide +kernel)
set_option maxRecDepth 20000 in
theorem gX11_say_X1_add : GoodIn wsX11_say (wsV RX11 243 RX1 yX1_add wsX1_add) := goodIn_app (goodIn_of _ (by decide +kernel)) ggX11_say_X1_add
theorem dX11_say_0 : decode cX11_say 0 = .ok (.aload_n 0, 1) := by decide +kernel
theorem dX11_say_1 : decode cX11_say 1 = .ok (.getfield 19, 3) := by decide +kernel
theorem dX11_say_4 : decode cX11_say 4 = .ok (.iload_n 1, 1) := by decide +kernel
theorem dX11_say_5 : decode cX11_say 5 = .ok (.invokevirtual 162, 3) := by decide +kernel
theorem dX11_say_8 : decode cX11_say 8 = .ok (.ifCond .ne 6, 3) := by decide +kernel
theorem dX11_say_11 : decode cX11_say 11 = .ok (.ldc 146, 2) := by decide +kernel
theorem dX11_say_13 : decode cX11_say 13 = .ok (.ireturn, 1) := by decide +kernel
theorem dX11_say_14 : decode cX11_say 14 = .ok (.iload_n 2, 1) := by decide +kernel
theorem dX11_say_15 : decode cX11_say 15 = .ok (.bipush 11, 2) := by decide +kernel
theorem dX11_say_17 : decode cX11_say 17 = .ok (.invokestatic 87, 3) := by decide +kernel
theorem dX11_say_20 : decode cX11_say 20 = .ok (.ifCond .eq 6, 3) := by decide +kernel
theorem dX11_say_23 : decode cX11_say 23 = .ok (.ldc 91, 2) := by decide +kernel
theorem dX11_say_25 : decode cX11_say 25 = .ok (.ireturn, 1) := by decide +kernel
theorem dX11_say_26 : decode cX11_say 26 = .ok (.aload_n 0, 1) := by decide +kernel
theorem dX11_say_27 : decode cX11_say 27 = .ok (.getfield 75, 3) := by decide +kernel
theorem dX11_say_30 : decode cX11_say 30 = .ok (.iload_n 1, 1) := by decide +kernel
theorem dX11_say_31 : decode cX11_say 31 = .ok (.iload_n 2, 1) := by decide +kernel
theorem dX11_say_32 : decode cX11_say 32 = .ok (.invokevirtual 243, 3) := by decide +kernel
theorem dX11_say_35 : decode cX11_say 35 = .ok (.ifCond .eq 13, 3) := by decide +kernel
theorem dX11_say_38 : decode cX11_say 38 = .ok (.aload_n 0, 1) := by decide +kernel
theorem dX11_say_39 : decode cX11_say 39 = .ok (.getfield 75, 3) := by decide +kernel
theorem dX11_say_42 : decode cX11_say 42 = .ok (.getfield 121, 3) := by decide +kernel
theorem dX11_say_45 : decode cX11_say 45 = .ok (.goto 5, 3) := by decide +kernel
theorem dX11_say_48 : decode cX11_say 48 = .ok (.ldc 100, 2) := by decide +kernel
theorem dX11_say_50 : decode cX11_say 50 = .ok (.ireturn, 1) := by decide +kernel
set_option maxRecDepth 20000 in
theorem ggX11_births_X5_stands : GoodIn wsX11_births wsX5_stands := goodIn_r _ [9, 10, 102, 103, 104, 105, 106, 107, 108, 109, 110, 111] (by decide +kernel) (by decide +kernel)
set_option maxRecDepth 20000 in
theorem gX11_births_X5_stands : GoodIn wsX11_births (wsV RX11 190 RX5 yX5_stands wsX5_stands) := goodIn_app (goodIn_of _ (by decide +kernel)) ggX11_births_X5_stands
set_option maxRecDepth 20000 in
theorem ggX11_births_X1_gatherBirths : GoodIn wsX11_births wsX1_gatherBirths := goodIn_r _ [15, 16, 17, 18, 19, 20, 14, 21, 22, 23, 24, 25, 26, 8, 27, 10, 28, 29, 30, 31, 32, 33, 34, 35, 36, 37, 38, 39, 40, 41, 42, 43, 44, 45, 46, 47, 48, 49, 50, 51, 52, 53, 54, 55, 56, 57, 58, 59, 60, 61, 62, 63, 64, 65, 66, 67, 68, 69, 70, 71, 72, 73, 74, 75, 76, 77, 78, 94, 95, 96, 97, 98, 99, 100, 101, 102, 103, 104, 105, 106, 107, 108, 109, 110, 111, 112, 113, 114] (by decide +kernel) (by decide +kernel)
set_option maxRecDepth 20000 in
theorem gX11_births_X1_gatherBirths : GoodIn wsX11_births (wsV RX11 245 RX1 yX1_gatherBirths wsX1_gatherBirths) := goodIn_app (goodIn_of _ (by decide +kernel)) ggX11_births_X1_gatherBirths
set_option maxRecDepth 20000 in
theorem ggX11_births_X1_birthAt : GoodIn wsX11_births wsX1_birthAt := goodIn_r _ [82, 16, 17, 43, 44, 45, 46, 94, 95, 96, 97, 98, 99, 100, 101] (by decide +kernel) (by decide +kernel)
set_option maxRecDepth 20000 in
theorem gX11_births_X1_birthAt : GoodIn wsX11_births (wsV RX11 251 RX1 yX1_birthAt wsX1_birthAt) := goodIn_app (goodIn_of _ (by decide +kernel)) ggX11_births_X1_birthAt
theorem dX11_births_0 : decode cX11_births 0 = .ok (.aload_n 0, 1) := by decide +kernel
theorem dX11_births_1 : decode cX11_births 1 = .ok (.getfield 19, 3) := by decide +kernel
theorem dX11_births_4 : decode cX11_births 4 = .ok (.invokevirtual 190, 3) := by decide +kernel
theorem dX11_births_7 : decode cX11_births 7 = .ok (.ifCond .ne 6, 3) := by decide +kernel
theorem dX11_births_10 : decode cX11_births 10 = .ok (.ldc 193, 2) := by decide +kernel
theorem dX11_births_12 : decode cX11_births 12 = .ok (.ireturn, 1) := by decide +kernel
theorem dX11_births_13 : decode cX11_births 13 = .ok (.aload_n 0, 1) := by decide +kernel
theorem dX11_births_14 : decode cX11_births 14 = .ok (.getfield 75, 3) := by decide +kernel
theorem dX11_births_17 : decode cX11_births 17 = .ok (.invokevirtual 245, 3) := by decide +kernel
theorem dX11_births_20 : decode cX11_births 20 = .ok (.iload_n 1, 1) := by decide +kernel
theorem dX11_births_21 : decode cX11_births 21 = .ok (.iconst (-1), 1) := by decide +kernel
theorem dX11_births_22 : decode cX11_births 22 = .ok (.if_icmp .ne 11, 3) := by decide +kernel
theorem dX11_births_25 : decode cX11_births 25 = .ok (.aload_n 0, 1) := by decide +kernel
theorem dX11_births_26 : decode cX11_births 26 = .ok (.getfield 75, 3) := by decide +kernel
theorem dX11_births_29 : decode cX11_births 29 = .ok (.getfield 248, 3) := by decide +kernel
theorem dX11_births_32 : decode cX11_births 32 = .ok (.ireturn, 1) := by decide +kernel
theorem dX11_births_33 : decode cX11_births 33 = .ok (.aload_n 0, 1) := by decide +kernel
theorem dX11_births_34 : decode cX11_births 34 = .ok (.getfield 75, 3) := by decide +kernel
theorem dX11_births_37 : decode cX11_births 37 = .ok (.iload_n 1, 1) := by decide +kernel
theorem dX11_births_38 : decode cX11_births 38 = .ok (.invokevirtual 251, 3) := by decide +kernel
theorem dX11_births_41 : decode cX11_births 41 = .ok (.ireturn, 1) := by decide +kernel
set_option maxRecDepth 20000 in
theorem ggX11_liars_X5_isPair : GoodIn wsX11_liars wsX5_isPair := goodIn_r _ [9, 10, 11, 12, 8, 13, 14, 15, 16, 17, 18, 19, 20, 21, 22, 23, 84, 85, 86, 87, 88, 89, 90, 91, 92, 93] (by decide +kernel) (by decide +kernel)
set_option maxRecDepth 20000 in
theorem gX11_liars_X5_isPair : GoodIn wsX11_liars (wsV RX11 254 RX5 yX5_isPair wsX5_isPair) := goodIn_app (goodIn_of _ (by decide +kernel)) ggX11_liars_X5_isPair
set_option maxRecDepth 20000 in
theorem ggX11_liars_X5_stands : GoodIn wsX11_liars wsX5_stands := goodIn_r _ [27, 23, 84, 85, 86, 87, 88, 89, 90, 91, 92, 93] (by decide +kernel) (by decide +kernel)
set_option maxRecDepth 20000 in
theorem gX11_liars_X5_stands : GoodIn wsX11_liars (wsV RX11 190 RX5 yX5_stands wsX5_stands) := goodIn_app (goodIn_of _ (by decide +kernel)) ggX11_liars_X5_stands
set_option maxRecDepth 20000 in
theorem ggX11_liars_X1_liarsOf : GoodIn wsX11_liars wsX1_liarsOf := goodIn_r _ [32, 33, 34, 35, 36, 37, 38, 31, 39, 40, 41, 42, 43, 44, 45, 46, 47, 48, 49, 50, 51, 52, 53, 54, 55, 56, 57, 58, 59, 60, 61, 62, 63, 64, 65, 66, 67, 68, 69, 70, 71, 72, 94, 95, 96, 97, 98, 99, 100, 101, 102, 103, 84, 85, 86, 87, 88, 89, 90, 91, 92, 93, 104] (by decide +kernel) (by decide +kernel)
set_option maxRecDepth 20000 in
theorem gX11_liars_X1_liarsOf : GoodIn wsX11_liars (wsV RX11 257 RX1 yX1_liarsOf wsX1_liarsOf) := goodIn_app (goodIn_of _ (by decide +kernel)) ggX11_liars_X1_liarsOf
theorem dX11_liars_0 : decode cX11_liars 0 = .ok (.aload_n 0, 1) := by decide +kernel
theorem dX11_liars_1 : decode cX11_liars 1 = .ok (.getfield 19, 3) := by decide +kernel
theorem dX11_liars_4 : decode cX11_liars 4 = .ok (.iload_n 1, 1) := by decide +kernel
theorem dX11_liars_5 : decode cX11_liars 5 = .ok (.invokevirtual 254, 3) := by decide +kernel
theorem dX11_liars_8 : decode cX11_liars 8 = .ok (.ifCond .ne 6, 3) := by decide +kernel
theorem dX11_liars_11 : decode cX11_liars 11 = .ok (.ldc 146, 2) := by decide +kernel
theorem dX11_liars_13 : decode cX11_liars 13 = .ok (.ireturn, 1) := by decide +kernel
theorem dX11_liars_14 : decode cX11_liars 14 = .ok (.aload_n 0, 1) := by decide +kernel
theorem dX11_liars_15 : decode cX11_liars 15 = .ok (.getfield 19, 3) := by decide +kernel
theorem dX11_liars_18 : decode cX11_liars 18 = .ok (.invokevirtual 190, 3) := by decide +kernel
theorem dX11_liars_21 : decode cX11_liars 21 = .ok (.ifCond .eq 14, 3) := by decide +kernel
theorem dX11_liars_24 : decode cX11_liars 24 = .ok (.aload_n 0, 1) := by decide +kernel
theorem dX11_liars_25 : decode cX11_liars 25 = .ok (.getfield 75, 3) := by decide +kernel
theorem dX11_liars_28 : decode cX11_liars 28 = .ok (.iload_n 1, 1) := by decide +kernel
theorem dX11_liars_29 : decode cX11_liars 29 = .ok (.invokevirtual 257, 3) := by decide +kernel
theorem dX11_liars_32 : decode cX11_liars 32 = .ok (.goto 5, 3) := by decide +kernel
theorem dX11_liars_35 : decode cX11_liars 35 = .ok (.ldc 193, 2) := by decide +kernel
theorem dX11_liars_37 : decode cX11_liars 37 = .ok (.ireturn, 1) := by decide +kernel
set_option maxRecDepth 20000 in
theorem ggX11_leastLiars_X11_isOutside : GoodIn wsX11_leastLiars wsX11_isOutside := goodIn_r _ [8] (by decide +kernel) (by decide +kernel)
set_option maxRecDepth 20000 in
theorem gX11_leastLiars_X11_isOutside : GoodIn wsX11_leastLiars (va_wsS RX11 87 yX11_isOutside wsX11_isOutside) := goodIn_app (goodIn_of _ (by decide +kernel)) ggX11_leastLiars_X11_isOutside
set_option maxRecDepth 20000 in
theorem ggX11_leastLiars_X5_stands : GoodIn wsX11_leastLiars wsX5_stands := goodIn_r _ [13, 14, 90, 91, 92, 93, 94, 95, 96, 97, 98, 99] (by decide +kernel) (by decide +kernel)
set_option maxRecDepth 20000 in
theorem gX11_leastLiars_X5_stands : GoodIn wsX11_leastLiars (wsV RX11 190 RX5 yX5_stands wsX5_stands) := goodIn_app (goodIn_of _ (by decide +kernel)) ggX11_leastLiars_X5_stands
set_option maxRecDepth 20000 in
theorem ggX11_leastLiars_X1_pairOfFewestLiars : GoodIn wsX11_leastLiars wsX1_pairOfFewestLiars := goodIn_r _ [19, 20, 21, 22, 18, 23, 24, 25, 26, 27, 28, 12, 29, 14, 30, 31, 32, 33, 34, 35, 36, 37, 38, 39, 40, 41, 42, 43, 44, 45, 46, 47, 48, 49, 50, 51, 52, 53, 54, 55, 56, 57, 58, 59, 60, 61, 62, 63, 64, 65, 66, 67, 68, 69, 70, 71, 72, 73, 74, 75, 76, 77, 100, 101, 102, 103, 104, 105, 106, 107, 90, 91, 92, 93, 94, 95, 96, 97, 98, 99, 108, 109, 110] (by decide +kernel) (by decide +kernel)
set_option maxRecDepth 20000 in
theorem gX11_leastLiars_X1_pairOfFewestLiars : GoodIn wsX11_leastLiars (wsV RX11 260 RX1 yX1_pairOfFewestLiars wsX1_pairOfFewestLiars) := goodIn_app (goodIn_of _ (by decide +kernel)) ggX11_leastLiars_X1_pairOfFewestLiars
set_option maxRecDepth 20000 in
theorem ggX11_leastLiars_X1_liarsOf : GoodIn wsX11_leastLiars wsX1_liarsOf := goodIn_r _ [33, 34, 35, 36, 37, 38, 39, 18, 40, 41, 42, 43, 44, 45, 46, 47, 48, 49, 50, 51, 52, 53, 54, 55, 56, 57, 58, 59, 60, 61, 62, 63, 64, 65, 66, 67, 68, 69, 70, 71, 72, 73, 100, 101, 102, 103, 104, 105, 106, 107, 108, 109, 90, 91, 92, 93, 94, 95, 96, 97, 98, 99, 110] (by decide +kernel) (by decide +kernel)
set_option maxRecDepth 20000 in
theorem gX11_leastLiars_X1_liarsOf : GoodIn wsX11_leastLiars (wsV RX11 257 RX1 yX1_liarsOf wsX1_liarsOf) := goodIn_app (goodIn_of _ (by decide +kernel)) ggX11_leastLiars_X1_liarsOf
theorem dX11_leastLiars_0 : decode cX11_leastLiars 0 = .ok (.iload_n 1, 1) := by decide +kernel
theorem dX11_leastLiars_1 : decode cX11_leastLiars 1 = .ok (.iconst 1, 1) := by decide +kernel
theorem dX11_leastLiars_2 : decode cX11_leastLiars 2 = .ok (.invokestatic 87, 3) := by decide +kernel
theorem dX11_leastLiars_5 : decode cX11_leastLiars 5 = .ok (.ifCond .eq 6, 3) := by decide +kernel
theorem dX11_leastLiars_8 : decode cX11_leastLiars 8 = .ok (.ldc 91, 2) := by decide +kernel
theorem dX11_leastLiars_10 : decode cX11_leastLiars 10 = .ok (.ireturn, 1) := by decide +kernel
theorem dX11_leastLiars_11 : decode cX11_leastLiars 11 = .ok (.aload_n 0, 1) := by decide +kernel
theorem dX11_leastLiars_12 : decode cX11_leastLiars 12 = .ok (.getfield 19, 3) := by decide +kernel
theorem dX11_leastLiars_15 : decode cX11_leastLiars 15 = .ok (.invokevirtual 190, 3) := by decide +kernel
theorem dX11_leastLiars_18 : decode cX11_leastLiars 18 = .ok (.ifCond .ne 6, 3) := by decide +kernel
theorem dX11_leastLiars_21 : decode cX11_leastLiars 21 = .ok (.ldc 193, 2) := by decide +kernel
theorem dX11_leastLiars_23 : decode cX11_leastLiars 23 = .ok (.ireturn, 1) := by decide +kernel
theorem dX11_leastLiars_24 : decode cX11_leastLiars 24 = .ok (.aload_n 0, 1) := by decide +kernel
theorem dX11_leastLiars_25 : decode cX11_leastLiars 25 = .ok (.getfield 75, 3) := by decide +kernel
theorem dX11_leastLiars_28 : decode cX11_leastLiars 28 = .ok (.invokevirtual 260, 3) := by decide +kernel
theorem dX11_leastLiars_31 : decode cX11_leastLiars 31 = .ok (.istore_n 2, 1) := by decide +kernel
theorem dX11_leastLiars_32 : decode cX11_leastLiars 32 = .ok (.iload_n 1, 1) := by decide +kernel
theorem dX11_leastLiars_33 : decode cX11_leastLiars 33 = .ok (.ifCond .ne 7, 3) := by decide +kernel
theorem dX11_leastLiars_36 : decode cX11_leastLiars 36 = .ok (.iload_n 2, 1) := by decide +kernel
theorem dX11_leastLiars_37 : decode cX11_leastLiars 37 = .ok (.goto 11, 3) := by decide +kernel
theorem dX11_leastLiars_40 : decode cX11_leastLiars 40 = .ok (.aload_n 0, 1) := by decide +kernel
theorem dX11_leastLiars_41 : decode cX11_leastLiars 41 = .ok (.getfield 75, 3) := by decide +kernel
theorem dX11_leastLiars_44 : decode cX11_leastLiars 44 = .ok (.iload_n 2, 1) := by decide +kernel
theorem dX11_leastLiars_45 : decode cX11_leastLiars 45 = .ok (.invokevirtual 257, 3) := by decide +kernel
theorem dX11_leastLiars_48 : decode cX11_leastLiars 48 = .ok (.ireturn, 1) := by decide +kernel
set_option maxRecDepth 20000 in
theorem ggX11_ask_X5_stands : GoodIn wsX11_ask wsX5_stands := goodIn_r _ [8, 9, 100, 101, 102, 103, 104, 105, 106, 107, 108, 109] (by decide +kernel) (by decide +kernel)
set_option maxRecDepth 20000 in
theorem gX11_ask_X5_stands : GoodIn wsX11_ask (wsV RX11 190 RX5 yX5_stands wsX5_stands) := goodIn_app (goodIn_of _ (by decide +kernel)) ggX11_ask_X5_stands
set_option maxRecDepth 20000 in
theorem ggX11_ask_X1_gatherBirths : GoodIn wsX11_ask wsX1_gatherBirths := goodIn_r _ [14, 15, 16, 17, 18, 19, 13, 20, 21, 22, 23, 24, 25, 7, 26, 9, 27, 28, 29, 30, 31, 32, 33, 34, 35, 36, 37, 38, 39, 40, 41, 42, 43, 44, 45, 46, 47, 48, 49, 50, 51, 52, 53, 54, 55, 56, 57, 58, 59, 60, 61, 62, 63, 64, 65, 66, 67, 68, 69, 70, 71, 72, 73, 74, 75, 76, 77, 110, 111, 112, 113, 114, 115, 116, 117, 100, 101, 102, 103, 104, 105, 106, 107, 108, 109, 118, 119, 120] (by decide +kernel) (by decide +kernel)
set_option maxRecDepth 20000 in
theorem gX11_ask_X1_gatherBirths : GoodIn wsX11_ask (wsV RX11 245 RX1 yX1_gatherBirths wsX1_gatherBirths) := goodIn_app (goodIn_of _ (by decide +kernel)) ggX11_ask_X1_gatherBirths
set_option maxRecDepth 20000 in
theorem ggX11_ask_X1_bestAsked : GoodIn wsX11_ask wsX1_bestAsked := goodIn_r _ [81, 15, 21, 82, 83, 84, 85, 13, 86, 87, 16, 36, 88, 72, 69, 73, 75, 76, 44, 77, 42, 43, 45, 39, 40, 41, 46, 47, 48, 49, 50, 51, 52, 53, 54, 55, 56, 57, 58, 59, 60, 61, 62, 63, 64, 65, 66, 67, 68, 70, 71, 74, 110, 111, 112, 113, 114, 115, 116, 117, 100, 101, 102, 103, 104, 105, 106, 107, 108, 109, 118, 119, 120] (by decide +kernel) (by decide +kernel)
set_option maxRecDepth 20000 in
theorem gX11_ask_X1_bestAsked : GoodIn wsX11_ask (wsV RX11 263 RX1 yX1_bestAsked wsX1_bestAsked) := goodIn_app (goodIn_of _ (by decide +kernel)) ggX11_ask_X1_bestAsked
theorem dX11_ask_0 : decode cX11_ask 0 = .ok (.aload_n 0, 1) := by decide +kernel
theorem dX11_ask_1 : decode cX11_ask 1 = .ok (.getfield 19, 3) := by decide +kernel
theorem dX11_ask_4 : decode cX11_ask 4 = .ok (.invokevirtual 190, 3) := by decide +kernel
theorem dX11_ask_7 : decode cX11_ask 7 = .ok (.ifCond .ne 6, 3) := by decide +kernel
theorem dX11_ask_10 : decode cX11_ask 10 = .ok (.ldc 193, 2) := by decide +kernel
theorem dX11_ask_12 : decode cX11_ask 12 = .ok (.ireturn, 1) := by decide +kernel
theorem dX11_ask_13 : decode cX11_ask 13 = .ok (.aload_n 0, 1) := by decide +kernel
theorem dX11_ask_14 : decode cX11_ask 14 = .ok (.getfield 75, 3) := by decide +kernel
theorem dX11_ask_17 : decode cX11_ask 17 = .ok (.invokevirtual 245, 3) := by decide +kernel
theorem dX11_ask_20 : decode cX11_ask 20 = .ok (.aload_n 0, 1) := by decide +kernel
theorem dX11_ask_21 : decode cX11_ask 21 = .ok (.getfield 75, 3) := by decide +kernel
theorem dX11_ask_24 : decode cX11_ask 24 = .ok (.invokevirtual 263, 3) := by decide +kernel
theorem dX11_ask_27 : decode cX11_ask 27 = .ok (.ireturn, 1) := by decide +kernel
set_option maxRecDepth 20000 in
theorem ggX11_write_X11_isOutside : GoodIn wsX11_write wsX11_isOutside := goodIn_r _ [8] (by decide +kernel) (by decide +kernel)
set_option maxRecDepth 20000 in
theorem gX11_write_X11_isOutside : GoodIn wsX11_write (va_wsS RX11 87 yX11_isOutside wsX11_isOutside) := goodIn_app (goodIn_of _ (by decide +kernel)) ggX11_write_X11_isOutside
set_option maxRecDepth 20000 in
theorem ggX11_write_X0_add : GoodIn wsX11_write wsX0_add := goodIn_r _ [13, 14, 15, 16, 17, 18, 19, 31, 32] (by decide +kernel) (by decide +kernel)
set_option maxRecDepth 20000 in
theorem gX11_write_X0_add : GoodIn wsX11_write (wsV RX11 266 RX0 yX0_add wsX0_add) := goodIn_app (goodIn_of _ (by decide +kernel)) ggX11_write_X0_add
theorem dX11_write_0 : decode cX11_write 0 = .ok (.iload_n 1, 1) := by decide +kernel
theorem dX11_write_1 : decode cX11_write 1 = .ok (.bipush 7, 2) := by decide +kernel
theorem dX11_write_3 : decode cX11_write 3 = .ok (.invokestatic 87, 3) := by decide +kernel
theorem dX11_write_6 : decode cX11_write 6 = .ok (.ifCond .eq 6, 3) := by decide +kernel
theorem dX11_write_9 : decode cX11_write 9 = .ok (.ldc 91, 2) := by decide +kernel
theorem dX11_write_11 : decode cX11_write 11 = .ok (.ireturn, 1) := by decide +kernel
theorem dX11_write_12 : decode cX11_write 12 = .ok (.aload_n 0, 1) := by decide +kernel
theorem dX11_write_13 : decode cX11_write 13 = .ok (.getfield 82, 3) := by decide +kernel
theorem dX11_write_16 : decode cX11_write 16 = .ok (.iload_n 1, 1) := by decide +kernel
theorem dX11_write_17 : decode cX11_write 17 = .ok (.invokevirtual 266, 3) := by decide +kernel
theorem dX11_write_20 : decode cX11_write 20 = .ok (.ifCond .eq 13, 3) := by decide +kernel
theorem dX11_write_23 : decode cX11_write 23 = .ok (.aload_n 0, 1) := by decide +kernel
theorem dX11_write_24 : decode cX11_write 24 = .ok (.getfield 82, 3) := by decide +kernel
theorem dX11_write_27 : decode cX11_write 27 = .ok (.getfield 124, 3) := by decide +kernel
theorem dX11_write_30 : decode cX11_write 30 = .ok (.goto 5, 3) := by decide +kernel
theorem dX11_write_33 : decode cX11_write 33 = .ok (.ldc 100, 2) := by decide +kernel
theorem dX11_write_35 : decode cX11_write 35 = .ok (.ireturn, 1) := by decide +kernel
theorem dX11_tear_0 : decode cX11_tear 0 = .ok (.aload_n 0, 1) := by decide +kernel
theorem dX11_tear_1 : decode cX11_tear 1 = .ok (.getfield 75, 3) := by decide +kernel
theorem dX11_tear_4 : decode cX11_tear 4 = .ok (.getfield 121, 3) := by decide +kernel
theorem dX11_tear_7 : decode cX11_tear 7 = .ok (.aload_n 0, 1) := by decide +kernel
theorem dX11_tear_8 : decode cX11_tear 8 = .ok (.getfield 82, 3) := by decide +kernel
theorem dX11_tear_11 : decode cX11_tear 11 = .ok (.getfield 124, 3) := by decide +kernel
theorem dX11_tear_14 : decode cX11_tear 14 = .ok (.iadd, 1) := by decide +kernel
theorem dX11_tear_15 : decode cX11_tear 15 = .ok (.istore_n 1, 1) := by decide +kernel
theorem dX11_tear_16 : decode cX11_tear 16 = .ok (.aload_n 0, 1) := by decide +kernel
theorem dX11_tear_17 : decode cX11_tear 17 = .ok (.getfield 75, 3) := by decide +kernel
