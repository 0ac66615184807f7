theorem dX6_lays1_7 : decode cX6_lays1 7 = .ok (.iload_n 1, 1) := by decide +kernel
theorem dX6_lays1_8 : decode cX6_lays1 8 = .ok (.imul, 1) := by decide +kernel
theorem dX6_lays1_9 : decode cX6_lays1 9 = .ok (.iadd, 1) := by decide +kernel
theorem dX6_lays1_10 : decode cX6_lays1 10 = .ok (.iload_n 2, 1) := by decide +kernel
theorem dX6_lays1_11 : decode cX6_lays1 11 = .ok (.iadd, 1) := by decide +kernel
theorem dX6_lays1_12 : decode cX6_lays1 12 = .ok (.iload_n 3, 1) := by decide +kernel
theorem dX6_lays1_13 : decode cX6_lays1 13 = .ok (.iastore, 1) := by decide +kernel
theorem dX6_lays1_14 : decode cX6_lays1 14 = .ok (.return_, 1) := by decide +kernel
theorem dX6_change1_0 : decode cX6_change1 0 = .ok (.aload_n 0, 1) := by decide +kernel
theorem dX6_change1_1 : decode cX6_change1 1 = .ok (.getfield 7, 3) := by decide +kernel
theorem dX6_change1_4 : decode cX6_change1 4 = .ok (.iload_n 1, 1) := by decide +kernel
theorem dX6_change1_5 : decode cX6_change1 5 = .ok (.iaload, 1) := by decide +kernel
theorem dX6_change1_6 : decode cX6_change1 6 = .ok (.istore_n 3, 1) := by decide +kernel
theorem dX6_change1_7 : decode cX6_change1 7 = .ok (.aload_n 0, 1) := by decide +kernel
theorem dX6_change1_8 : decode cX6_change1 8 = .ok (.getfield 7, 3) := by decide +kernel
theorem dX6_change1_11 : decode cX6_change1 11 = .ok (.iload_n 1, 1) := by decide +kernel
theorem dX6_change1_12 : decode cX6_change1 12 = .ok (.iload_n 2, 1) := by decide +kernel
theorem dX6_change1_13 : decode cX6_change1 13 = .ok (.iastore, 1) := by decide +kernel
theorem dX6_change1_14 : decode cX6_change1 14 = .ok (.iload_n 3, 1) := by decide +kernel
theorem dX6_change1_15 : decode cX6_change1 15 = .ok (.ireturn, 1) := by decide +kernel
set_option maxRecDepth 20000 in
theorem ggX6_feed_X6_in : GoodIn wsX6_feed wsX6_in := goodIn_r _ [6] (by decide +kernel) (by decide +kernel)
set_option maxRecDepth 20000 in
theorem gX6_feed_X6_in : GoodIn wsX6_feed (va_wsS RX6 51 yX6_in wsX6_in) := goodIn_app (goodIn_of _ (by decide +kernel)) ggX6_feed_X6_in
set_option maxRecDepth 20000 in
theorem ggX6_feed_X6_error : GoodIn wsX6_feed wsX6_error := goodIn_r _ [10, 11, 12, 13, 14, 15, 16, 17, 18, 19, 20, 21, 22, 23, 24, 25, 26, 27, 28, 29, 30, 31, 32] (by decide +kernel) (by decide +kernel)
set_option maxRecDepth 20000 in
theorem gX6_feed_X6_error : GoodIn wsX6_feed (wsV RX6 55 RX6 yX6_error wsX6_error) := goodIn_app (goodIn_of _ (by decide +kernel)) ggX6_feed_X6_error
theorem dX6_feed_0 : decode cX6_feed 0 = .ok (.iload_n 3, 1) := by decide +kernel
theorem dX6_feed_1 : decode cX6_feed 1 = .ok (.iconst 1, 1) := by decide +kernel
theorem dX6_feed_2 : decode cX6_feed 2 = .ok (.bipush 8, 2) := by decide +kernel
theorem dX6_feed_4 : decode cX6_feed 4 = .ok (.invokestatic 51, 3) := by decide +kernel
theorem dX6_feed_7 : decode cX6_feed 7 = .ok (.ifCond .ne 9, 3) := by decide +kernel
theorem dX6_feed_10 : decode cX6_feed 10 = .ok (.aload_n 0, 1) := by decide +kernel
theorem dX6_feed_11 : decode cX6_feed 11 = .ok (.iconst 1, 1) := by decide +kernel
theorem dX6_feed_12 : decode cX6_feed 12 = .ok (.invokevirtual 55, 3) := by decide +kernel
theorem dX6_feed_15 : decode cX6_feed 15 = .ok (.ireturn, 1) := by decide +kernel
theorem dX6_feed_16 : decode cX6_feed 16 = .ok (.aload_n 0, 1) := by decide +kernel
theorem dX6_feed_17 : decode cX6_feed 17 = .ok (.getfield 7, 3) := by decide +kernel
theorem dX6_feed_20 : decode cX6_feed 20 = .ok (.iconst 4, 1) := by decide +kernel
theorem dX6_feed_21 : decode cX6_feed 21 = .ok (.iaload, 1) := by decide +kernel
theorem dX6_feed_22 : decode cX6_feed 22 = .ok (.iload_n 3, 1) := by decide +kernel
theorem dX6_feed_23 : decode cX6_feed 23 = .ok (.iadd, 1) := by decide +kernel
theorem dX6_feed_24 : decode cX6_feed 24 = .ok (.bipush 60, 2) := by decide +kernel
theorem dX6_feed_26 : decode cX6_feed 26 = .ok (.if_icmp .le 9, 3) := by decide +kernel
theorem dX6_feed_29 : decode cX6_feed 29 = .ok (.aload_n 0, 1) := by decide +kernel
theorem dX6_feed_30 : decode cX6_feed 30 = .ok (.iconst 4, 1) := by decide +kernel
theorem dX6_feed_31 : decode cX6_feed 31 = .ok (.invokevirtual 55, 3) := by decide +kernel
theorem dX6_feed_34 : decode cX6_feed 34 = .ok (.ireturn, 1) := by decide +kernel
theorem dX6_feed_35 : decode cX6_feed 35 = .ok (.iconst 0, 1) := by decide +kernel
theorem dX6_feed_36 : decode cX6_feed 36 = .ok (.istore 4, 2) := by decide +kernel
theorem dX6_feed_38 : decode cX6_feed 38 = .ok (.iload 4, 2) := by decide +kernel
theorem dX6_feed_40 : decode cX6_feed 40 = .ok (.iload_n 3, 1) := by decide +kernel
theorem dX6_feed_41 : decode cX6_feed 41 = .ok (.if_icmp .ge 46, 3) := by decide +kernel
theorem dX6_feed_44 : decode cX6_feed 44 = .ok (.aload_n 0, 1) := by decide +kernel
theorem dX6_feed_45 : decode cX6_feed 45 = .ok (.getfield 7, 3) := by decide +kernel
theorem dX6_feed_48 : decode cX6_feed 48 = .ok (.sipush 296, 3) := by decide +kernel
theorem dX6_feed_51 : decode cX6_feed 51 = .ok (.aload_n 0, 1) := by decide +kernel
theorem dX6_feed_52 : decode cX6_feed 52 = .ok (.getfield 7, 3) := by decide +kernel
theorem dX6_feed_55 : decode cX6_feed 55 = .ok (.iconst 4, 1) := by decide +kernel
theorem dX6_feed_56 : decode cX6_feed 56 = .ok (.iaload, 1) := by decide +kernel
theorem dX6_feed_57 : decode cX6_feed 57 = .ok (.iadd, 1) := by decide +kernel
theorem dX6_feed_58 : decode cX6_feed 58 = .ok (.lload_n 1, 1) := by decide +kernel
theorem dX6_feed_59 : decode cX6_feed 59 = .ok (.bipush 8, 2) := by decide +kernel
theorem dX6_feed_61 : decode cX6_feed 61 = .ok (.iload 4, 2) := by decide +kernel
theorem dX6_feed_63 : decode cX6_feed 63 = .ok (.imul, 1) := by decide +kernel
theorem dX6_feed_64 : decode cX6_feed 64 = .ok (.lshr, 1) := by decide +kernel
theorem dX6_feed_65 : decode cX6_feed 65 = .ok (.ldc2_w 59, 3) := by decide +kernel
theorem dX6_feed_68 : decode cX6_feed 68 = .ok (.land, 1) := by decide +kernel
theorem dX6_feed_69 : decode cX6_feed 69 = .ok (.l2i, 1) := by decide +kernel
theorem dX6_feed_70 : decode cX6_feed 70 = .ok (.iastore, 1) := by decide +kernel
theorem dX6_feed_71 : decode cX6_feed 71 = .ok (.aload_n 0, 1) := by decide +kernel
theorem dX6_feed_72 : decode cX6_feed 72 = .ok (.getfield 7, 3) := by decide +kernel
theorem dX6_feed_75 : decode cX6_feed 75 = .ok (.iconst 4, 1) := by decide +kernel
theorem dX6_feed_76 : decode cX6_feed 76 = .ok (.dup2, 1) := by decide +kernel
theorem dX6_feed_77 : decode cX6_feed 77 = .ok (.iaload, 1) := by decide +kernel
theorem dX6_feed_78 : decode cX6_feed 78 = .ok (.iconst 1, 1) := by decide +kernel
theorem dX6_feed_79 : decode cX6_feed 79 = .ok (.iadd, 1) := by decide +kernel
theorem dX6_feed_80 : decode cX6_feed 80 = .ok (.iastore, 1) := by decide +kernel
theorem dX6_feed_81 : decode cX6_feed 81 = .ok (.iinc 4 1, 3) := by decide +kernel
theorem dX6_feed_84 : decode cX6_feed 84 = .ok (.goto (-46), 3) := by decide +kernel
theorem dX6_feed_87 : decode cX6_feed 87 = .ok (.aload_n 0, 1) := by decide +kernel
theorem dX6_feed_88 : decode cX6_feed 88 = .ok (.getfield 7, 3) := by decide +kernel
theorem dX6_feed_91 : decode cX6_feed 91 = .ok (.iconst 4, 1) := by decide +kernel
theorem dX6_feed_92 : decode cX6_feed 92 = .ok (.iaload, 1) := by decide +kernel
theorem dX6_feed_93 : decode cX6_feed 93 = .ok (.ireturn, 1) := by decide +kernel
theorem dX6_look_0 : decode cX6_look 0 = .ok (.aload_n 0, 1) := by decide +kernel
theorem dX6_look_1 : decode cX6_look 1 = .ok (.getfield 61, 3) := by decide +kernel
theorem dX6_look_4 : decode cX6_look 4 = .ok (.aload_n 0, 1) := by decide +kernel
theorem dX6_look_5 : decode cX6_look 5 = .ok (.getfield 7, 3) := by decide +kernel
theorem dX6_look_8 : decode cX6_look 8 = .ok (.iconst 4, 1) := by decide +kernel
theorem dX6_look_9 : decode cX6_look 9 = .ok (.iaload, 1) := by decide +kernel
theorem dX6_look_10 : decode cX6_look 10 = .ok (.if_icmp .ge 19, 3) := by decide +kernel
theorem dX6_look_13 : decode cX6_look 13 = .ok (.aload_n 0, 1) := by decide +kernel
theorem dX6_look_14 : decode cX6_look 14 = .ok (.getfield 7, 3) := by decide +kernel
theorem dX6_look_17 : decode cX6_look 17 = .ok (.sipush 296, 3) := by decide +kernel
theorem dX6_look_20 : decode cX6_look 20 = .ok (.aload_n 0, 1) := by decide +kernel
theorem dX6_look_21 : decode cX6_look 21 = .ok (.getfield 61, 3) := by decide +kernel
theorem dX6_look_24 : decode cX6_look 24 = .ok (.iadd, 1) := by decide +kernel
theorem dX6_look_25 : decode cX6_look 25 = .ok (.iaload, 1) := by decide +kernel
theorem dX6_look_26 : decode cX6_look 26 = .ok (.goto 4, 3) := by decide +kernel
theorem dX6_look_29 : decode cX6_look 29 = .ok (.iconst (-1), 1) := by decide +kernel
theorem dX6_look_30 : decode cX6_look 30 = .ok (.ireturn, 1) := by decide +kernel
theorem dX6_isName_0 : decode cX6_isName 0 = .ok (.iload_n 1, 1) := by decide +kernel
theorem dX6_isName_1 : decode cX6_isName 1 = .ok (.bipush 115, 2) := by decide +kernel
theorem dX6_isName_3 : decode cX6_isName 3 = .ok (.if_icmp .ne 5, 3) := by decide +kernel
theorem dX6_isName_6 : decode cX6_isName 6 = .ok (.iconst 1, 1) := by decide +kernel
theorem dX6_isName_7 : decode cX6_isName 7 = .ok (.ireturn, 1) := by decide +kernel
theorem dX6_isName_8 : decode cX6_isName 8 = .ok (.aload_n 0, 1) := by decide +kernel
theorem dX6_isName_9 : decode cX6_isName 9 = .ok (.getfield 65, 3) := by decide +kernel
theorem dX6_isName_12 : decode cX6_isName 12 = .ok (.ifCond .ne 23, 3) := by decide +kernel
theorem dX6_isName_15 : decode cX6_isName 15 = .ok (.iload_n 1, 1) := by decide +kernel
theorem dX6_isName_16 : decode cX6_isName 16 = .ok (.bipush 114, 2) := by decide +kernel
theorem dX6_isName_18 : decode cX6_isName 18 = .ok (.if_icmp .eq 9, 3) := by decide +kernel
theorem dX6_isName_21 : decode cX6_isName 21 = .ok (.iload_n 1, 1) := by decide +kernel
theorem dX6_isName_22 : decode cX6_isName 22 = .ok (.bipush 116, 2) := by decide +kernel
theorem dX6_isName_24 : decode cX6_isName 24 = .ok (.if_icmp .ne 7, 3) := by decide +kernel
theorem dX6_isName_27 : decode cX6_isName 27 = .ok (.iconst 1, 1) := by decide +kernel
theorem dX6_isName_28 : decode cX6_isName 28 = .ok (.goto 24, 3) := by decide +kernel
theorem dX6_isName_31 : decode cX6_isName 31 = .ok (.iconst 0, 1) := by decide +kernel
theorem dX6_isName_32 : decode cX6_isName 32 = .ok (.goto 20, 3) := by decide +kernel
theorem dX6_isName_35 : decode cX6_isName 35 = .ok (.iload_n 1, 1) := by decide +kernel
theorem dX6_isName_36 : decode cX6_isName 36 = .ok (.bipush 104, 2) := by decide +kernel
theorem dX6_isName_38 : decode cX6_isName 38 = .ok (.if_icmp .eq 9, 3) := by decide +kernel
theorem dX6_isName_41 : decode cX6_isName 41 = .ok (.iload_n 1, 1) := by decide +kernel
theorem dX6_isName_42 : decode cX6_isName 42 = .ok (.bipush 99, 2) := by decide +kernel
theorem dX6_isName_44 : decode cX6_isName 44 = .ok (.if_icmp .ne 7, 3) := by decide +kernel
theorem dX6_isName_47 : decode cX6_isName 47 = .ok (.iconst 1, 1) := by decide +kernel
theorem dX6_isName_48 : decode cX6_isName 48 = .ok (.goto 4, 3) := by decide +kernel
theorem dX6_isName_51 : decode cX6_isName 51 = .ok (.iconst 0, 1) := by decide +kernel
theorem dX6_isName_52 : decode cX6_isName 52 = .ok (.ireturn, 1) := by decide +kernel
theorem dX6_step1_0 : decode cX6_step1 0 = .ok (.aload_n 0, 1) := by decide +kernel
theorem dX6_step1_1 : decode cX6_step1 1 = .ok (.getfield 22, 3) := by decide +kernel
theorem dX6_step1_4 : decode cX6_step1 4 = .ok (.iconst 2, 1) := by decide +kernel
theorem dX6_step1_5 : decode cX6_step1 5 = .ok (.aload_n 0, 1) := by decide +kernel
theorem dX6_step1_6 : decode cX6_step1 6 = .ok (.getfield 68, 3) := by decide +kernel
theorem dX6_step1_9 : decode cX6_step1 9 = .ok (.imul, 1) := by decide +kernel
theorem dX6_step1_10 : decode cX6_step1 10 = .ok (.iload_n 1, 1) := by decide +kernel
theorem dX6_step1_11 : decode cX6_step1 11 = .ok (.iastore, 1) := by decide +kernel
theorem dX6_step1_12 : decode cX6_step1 12 = .ok (.aload_n 0, 1) := by decide +kernel
theorem dX6_step1_13 : decode cX6_step1 13 = .ok (.getfield 22, 3) := by decide +kernel
theorem dX6_step1_16 : decode cX6_step1 16 = .ok (.iconst 2, 1) := by decide +kernel
theorem dX6_step1_17 : decode cX6_step1 17 = .ok (.aload_n 0, 1) := by decide +kernel
theorem dX6_step1_18 : decode cX6_step1 18 = .ok (.getfield 68, 3) := by decide +kernel
theorem dX6_step1_21 : decode cX6_step1 21 = .ok (.imul, 1) := by decide +kernel
theorem dX6_step1_22 : decode cX6_step1 22 = .ok (.iconst 1, 1) := by decide +kernel
theorem dX6_step1_23 : decode cX6_step1 23 = .ok (.iadd, 1) := by decide +kernel
theorem dX6_step1_24 : decode cX6_step1 24 = .ok (.iload_n 2, 1) := by decide +kernel
theorem dX6_step1_25 : decode cX6_step1 25 = .ok (.iastore, 1) := by decide +kernel
theorem dX6_step1_26 : decode cX6_step1 26 = .ok (.aload_n 0, 1) := by decide +kernel
theorem dX6_step1_27 : decode cX6_step1 27 = .ok (.dup, 1) := by decide +kernel
theorem dX6_step1_28 : decode cX6_step1 28 = .ok (.getfield 68, 3) := by decide +kernel
theorem dX6_step1_31 : decode cX6_step1 31 = .ok (.iconst 1, 1) := by decide +kernel
theorem dX6_step1_32 : decode cX6_step1 32 = .ok (.iadd, 1) := by decide +kernel
theorem dX6_step1_33 : decode cX6_step1 33 = .ok (.putfield 68, 3) := by decide +kernel
theorem dX6_step1_36 : decode cX6_step1 36 = .ok (.return_, 1) := by decide +kernel
set_option maxRecDepth 20000 in
theorem ggX6_whole_X6_both : GoodIn wsX6_whole wsX6_both := goodIn_r _ [17, 1, 18, 19, 20, 5, 6, 7, 8, 9, 10, 11, 12, 13, 14, 15, 16, 21, 22, 23, 24, 25, 26, 27, 28, 29, 30, 31, 32, 33, 34, 35, 36, 37, 38, 39, 40, 41, 42, 43, 44, 45, 46, 47, 48, 49, 0, 2, 3, 4, 50, 51, 52, 53, 54, 55, 56, 57, 58, 59, 60, 61, 62, 63, 64, 65, 66, 67, 68, 69] (by decide +kernel) (by decide +kernel)
set_option maxRecDepth 20000 in
theorem gX6_whole_X6_both : GoodIn wsX6_whole (wsV RX6 71 RX6 yX6_both wsX6_both) := goodIn_app (goodIn_of _ (by decide +kernel)) ggX6_whole_X6_both
set_option maxRecDepth 20000 in
theorem ggX6_whole_X6_look : GoodIn wsX6_whole wsX6_look := goodIn_r _ [9, 1, 10, 50, 51, 52, 53, 54, 55, 56, 57, 58, 59, 60, 61, 62, 63, 64, 65, 66, 67, 68, 69] (by decide +kernel) (by decide +kernel)
set_option maxRecDepth 20000 in
theorem gX6_whole_X6_look : GoodIn wsX6_whole (wsV RX6 75 RX6 yX6_look wsX6_look) := goodIn_app (goodIn_of _ (by decide +kernel)) ggX6_whole_X6_look
set_option maxRecDepth 20000 in
theorem ggX6_whole_X6_step1 : GoodIn wsX6_whole wsX6_step1 := goodIn_r _ [14, 15, 16, 50, 51, 52, 53, 54, 55, 56, 57, 58, 59, 60, 61, 62, 63, 64, 65, 66, 67, 68, 69] (by decide +kernel) (by decide +kernel)
set_option maxRecDepth 20000 in
theorem gX6_whole_X6_step1 : GoodIn wsX6_whole (wsV RX6 79 RX6 yX6_step1 wsX6_step1) := goodIn_app (goodIn_of _ (by decide +kernel)) ggX6_whole_X6_step1
theorem dX6_whole_0 : decode cX6_whole 0 = .ok (.aload_n 0, 1) := by decide +kernel
theorem dX6_whole_1 : decode cX6_whole 1 = .ok (.invokevirtual 71, 3) := by decide +kernel
theorem dX6_whole_4 : decode cX6_whole 4 = .ok (.ifCond .ne 5, 3) := by decide +kernel
theorem dX6_whole_7 : decode cX6_whole 7 = .ok (.iconst 0, 1) := by decide +kernel
theorem dX6_whole_8 : decode cX6_whole 8 = .ok (.ireturn, 1) := by decide +kernel
theorem dX6_whole_9 : decode cX6_whole 9 = .ok (.aload_n 0, 1) := by decide +kernel
theorem dX6_whole_10 : decode cX6_whole 10 = .ok (.invokevirtual 75, 3) := by decide +kernel
theorem dX6_whole_13 : decode cX6_whole 13 = .ok (.bipush 124, 2) := by decide +kernel
theorem dX6_whole_15 : decode cX6_whole 15 = .ok (.if_icmp .ne 32, 3) := by decide +kernel
theorem dX6_whole_18 : decode cX6_whole 18 = .ok (.aload_n 0, 1) := by decide +kernel
theorem dX6_whole_19 : decode cX6_whole 19 = .ok (.dup, 1) := by decide +kernel
theorem dX6_whole_20 : decode cX6_whole 20 = .ok (.getfield 61, 3) := by decide +kernel
theorem dX6_whole_23 : decode cX6_whole 23 = .ok (.iconst 1, 1) := by decide +kernel
theorem dX6_whole_24 : decode cX6_whole 24 = .ok (.iadd, 1) := by decide +kernel
theorem dX6_whole_25 : decode cX6_whole 25 = .ok (.putfield 61, 3) := by decide +kernel
theorem dX6_whole_28 : decode cX6_whole 28 = .ok (.aload_n 0, 1) := by decide +kernel
theorem dX6_whole_29 : decode cX6_whole 29 = .ok (.invokevirtual 71, 3) := by decide +kernel
theorem dX6_whole_32 : decode cX6_whole 32 = .ok (.ifCond .ne 5, 3) := by decide +kernel
theorem dX6_whole_35 : decode cX6_whole 35 = .ok (.iconst 0, 1) := by decide +kernel
theorem dX6_whole_36 : decode cX6_whole 36 = .ok (.ireturn, 1) := by decide +kernel
theorem dX6_whole_37 : decode cX6_whole 37 = .ok (.aload_n 0, 1) := by decide +kernel
theorem dX6_whole_38 : decode cX6_whole 38 = .ok (.iconst 3, 1) := by decide +kernel
theorem dX6_whole_39 : decode cX6_whole 39 = .ok (.bipush 124, 2) := by decide +kernel
theorem dX6_whole_41 : decode cX6_whole 41 = .ok (.invokevirtual 79, 3) := by decide +kernel
theorem dX6_whole_44 : decode cX6_whole 44 = .ok (.goto (-35), 3) := by decide +kernel
theorem dX6_whole_47 : decode cX6_whole 47 = .ok (.iconst 1, 1) := by decide +kernel
theorem dX6_whole_48 : decode cX6_whole 48 = .ok (.ireturn, 1) := by decide +kernel
set_option maxRecDepth 20000 in
theorem ggX6_both_X6_compared : GoodIn wsX6_both wsX6_compared := goodIn_r _ [17, 1, 18, 19, 20, 5, 6, 7, 8, 9, 10, 11, 12, 13, 14, 15, 16, 0, 2, 3, 4, 21, 22, 23, 24, 25, 26, 27, 28, 29, 30, 31, 32, 33, 34, 35, 36, 37, 38, 39, 40, 41, 42, 43, 44, 45, 46, 47, 48, 49, 50, 51, 52, 53, 54, 55, 56, 57, 58, 59, 60, 61, 62, 63, 64, 65, 66, 67, 68, 69] (by decide +kernel) (by decide +kernel)
set_option maxRecDepth 20000 in
theorem gX6_both_X6_compared : GoodIn wsX6_both (wsV RX6 83 RX6 yX6_compared wsX6_compared) := goodIn_app (goodIn_of _ (by decide +kernel)) ggX6_both_X6_compared
set_option maxRecDepth 20000 in
theorem ggX6_both_X6_look : GoodIn wsX6_both wsX6_look := goodIn_r _ [9, 1, 10, 50, 51, 52, 53, 54, 55, 56, 57, 58, 59, 60, 61, 62, 63, 64, 65, 66, 67, 68, 69] (by decide +kernel) (by decide +kernel)
set_option maxRecDepth 20000 in
theorem gX6_both_X6_look : GoodIn wsX6_both (wsV RX6 75 RX6 yX6_look wsX6_look) := goodIn_app (goodIn_of _ (by decide +kernel)) ggX6_both_X6_look
set_option maxRecDepth 20000 in
theorem ggX6_both_X6_step1 : GoodIn wsX6_both wsX6_step1 := goodIn_r _ [14, 15, 16, 50, 51, 52, 53, 54, 55, 56, 57, 58, 59, 60, 61, 62, 63, 64, 65, 66, 67, 68, 69] (by decide +kernel) (by decide +kernel)
set_option maxRecDepth 20000 in
theorem gX6_both_X6_step1 : GoodIn wsX6_both (wsV RX6 79 RX6 yX6_step1 wsX6_step1) := goodIn_app (goodIn_of _ (by decide +kernel)) ggX6_both_X6_step1
theorem dX6_both_0 : decode cX6_both 0 = .ok (.aload_n 0, 1) := by decide +kernel
theorem dX6_both_1 : decode cX6_both 1 = .ok (.invokevirtual 83, 3) := by decide +kernel
theorem dX6_both_4 : decode cX6_both 4 = .ok (.ifCond .ne 5, 3) := by decide +kernel
theorem dX6_both_7 : decode cX6_both 7 = .ok (.iconst 0, 1) := by decide +kernel
theorem dX6_both_8 : decode cX6_both 8 = .ok (.ireturn, 1) := by decide +kernel
theorem dX6_both_9 : decode cX6_both 9 = .ok (.aload_n 0, 1) := by decide +kernel
theorem dX6_both_10 : decode cX6_both 10 = .ok (.invokevirtual 75, 3) := by decide +kernel
theorem dX6_both_13 : decode cX6_both 13 = .ok (.bipush 38, 2) := by decide +kernel
theorem dX6_both_15 : decode cX6_both 15 = .ok (.if_icmp .ne 32, 3) := by decide +kernel
theorem dX6_both_18 : decode cX6_both 18 = .ok (.aload_n 0, 1) := by decide +kernel
theorem dX6_both_19 : decode cX6_both 19 = .ok (.dup, 1) := by decide +kernel
theorem dX6_both_20 : decode cX6_both 20 = .ok (.getfield 61, 3) := by decide +kernel
theorem dX6_both_23 : decode cX6_both 23 = .ok (.iconst 1, 1) := by decide +kernel
theorem dX6_both_24 : decode cX6_both 24 = .ok (.iadd, 1) := by decide +kernel
theorem dX6_both_25 : decode cX6_both 25 = .ok (.putfield 61, 3) := by decide +kernel
theorem dX6_both_28 : decode cX6_both 28 = .ok (.aload_n 0, 1) := by decide +kernel
theorem dX6_both_29 : decode cX6_both 29 = .ok (.invokevirtual 83, 3) := by decide +kernel
theorem dX6_both_32 : decode cX6_both 32 = .ok (.ifCond .ne 5, 3) := by decide +kernel
theorem dX6_both_35 : decode cX6_both 35 = .ok (.iconst 0, 1) := by decide +kernel
theorem dX6_both_36 : decode cX6_both 36 = .ok (.ireturn, 1) := by decide +kernel
theorem dX6_both_37 : decode cX6_both 37 = .ok (.aload_n 0, 1) := by decide +kernel
theorem dX6_both_38 : decode cX6_both 38 = .ok (.iconst 3, 1) := by decide +kernel
theorem dX6_both_39 : decode cX6_both 39 = .ok (.bipush 38, 2) := by decide +kernel
theorem dX6_both_41 : decode cX6_both 41 = .ok (.invokevirtual 79, 3) := by decide +kernel
theorem dX6_both_44 : decode cX6_both 44 = .ok (.goto (-35), 3) := by decide +kernel
theorem dX6_both_47 : decode cX6_both 47 = .ok (.iconst 1, 1) := by decide +kernel
theorem dX6_both_48 : decode cX6_both 48 = .ok (.ireturn, 1) := by decide +kernel
set_option maxRecDepth 20000 in
theorem ggX6_compared_X6_sum : GoodIn wsX6_compared wsX6_sum := goodIn_r _ [42, 1, 43, 44, 45, 5, 6, 7, 8, 9, 10, 11, 12, 13, 14, 15, 16, 17, 18, 19, 20, 0, 2, 3, 4, 21, 22, 23, 24, 25, 26, 27, 28, 29, 30, 31, 32, 33, 34, 35, 36, 37, 38, 39, 40, 41, 46, 47, 48, 49, 50, 51, 52, 53, 54, 55, 56, 57, 58, 59, 60, 61, 62, 63, 64, 65, 66, 67, 68, 69] (by decide +kernel) (by decide +kernel)
set_option maxRecDepth 20000 in
theorem gX6_compared_X6_sum : GoodIn wsX6_compared (wsV RX6 86 RX6 yX6_sum wsX6_sum) := goodIn_app (goodIn_of _ (by decide +kernel)) ggX6_compared_X6_sum
set_option maxRecDepth 20000 in
theorem ggX6_compared_X6_look : GoodIn wsX6_compared wsX6_look := goodIn_r _ [9, 1, 10, 50, 51, 52, 53, 54, 55, 56, 57, 58, 59, 60, 61, 62, 63, 64, 65, 66, 67, 68, 69] (by decide +kernel) (by decide +kernel)
set_option maxRecDepth 20000 in
theorem gX6_compared_X6_look : GoodIn wsX6_compared (wsV RX6 75 RX6 yX6_look wsX6_look) := goodIn_app (goodIn_of _ (by decide +kernel)) ggX6_compared_X6_look
set_option maxRecDepth 20000 in
theorem ggX6_compared_X6_step1 : GoodIn wsX6_compared wsX6_step1 := goodIn_r _ [14, 15, 16, 50, 51, 52, 53, 54, 55, 56, 57, 58, 59, 60, 61, 62, 63, 64, 65, 66, 67, 68, 69] (by decide +kernel) (by decide +kernel)
set_option maxRecDepth 20000 in
theorem gX6_compared_X6_step1 : GoodIn wsX6_compared (wsV RX6 79 RX6 yX6_step1 wsX6_step1) := goodIn_app (goodIn_of _ (by decide +kernel)) ggX6_compared_X6_step1
theorem dX6_compared_0 : decode cX6_compared 0 = .ok (.aload_n 0, 1) := by decide +kernel
theorem dX6_compared_1 : decode cX6_compared 1 = .ok (.invokevirtual 86, 3) := by decide +kernel
theorem dX6_compared_4 : decode cX6_compared 4 = .ok (.ifCond .ne 5, 3) := by decide +kernel
theorem dX6_compared_7 : decode cX6_compared 7 = .ok (.iconst 0, 1) := by decide +kernel
theorem dX6_compared_8 : decode cX6_compared 8 = .ok (.ireturn, 1) := by decide +kernel
theorem dX6_compared_9 : decode cX6_compared 9 = .ok (.aload_n 0, 1) := by decide +kernel
theorem dX6_compared_10 : decode cX6_compared 10 = .ok (.invokevirtual 75, 3) := by decide +kernel
theorem dX6_compared_13 : decode cX6_compared 13 = .ok (.istore_n 1, 1) := by decide +kernel
theorem dX6_compared_14 : decode cX6_compared 14 = .ok (.iload_n 1, 1) := by decide +kernel
theorem dX6_compared_15 : decode cX6_compared 15 = .ok (.bipush 60, 2) := by decide +kernel
theorem dX6_compared_17 : decode cX6_compared 17 = .ok (.if_icmp .eq 17, 3) := by decide +kernel
theorem dX6_compared_20 : decode cX6_compared 20 = .ok (.iload_n 1, 1) := by decide +kernel
theorem dX6_compared_21 : decode cX6_compared 21 = .ok (.bipush 61, 2) := by decide +kernel
theorem dX6_compared_23 : decode cX6_compared 23 = .ok (.if_icmp .eq 11, 3) := by decide +kernel
theorem dX6_compared_26 : decode cX6_compared 26 = .ok (.iload_n 1, 1) := by decide +kernel
theorem dX6_compared_27 : decode cX6_compared 27 = .ok (.bipush 62, 2) := by decide +kernel
theorem dX6_compared_29 : decode cX6_compared 29 = .ok (.if_icmp .eq 5, 3) := by decide +kernel
theorem dX6_compared_32 : decode cX6_compared 32 = .ok (.iconst 1, 1) := by decide +kernel
theorem dX6_compared_33 : decode cX6_compared 33 = .ok (.ireturn, 1) := by decide +kernel
theorem dX6_compared_34 : decode cX6_compared 34 = .ok (.aload_n 0, 1) := by decide +kernel
theorem dX6_compared_35 : decode cX6_compared 35 = .ok (.dup, 1) := by decide +kernel
theorem dX6_compared_36 : decode cX6_compared 36 = .ok (.getfield 61, 3) := by decide +kernel
theorem dX6_compared_39 : decode cX6_compared 39 = .ok (.iconst 1, 1) := by decide +kernel
theorem dX6_compared_40 : decode cX6_compared 40 = .ok (.iadd, 1) := by decide +kernel
theorem dX6_compared_41 : decode cX6_compared 41 = .ok (.putfield 61, 3) := by decide +kernel
theorem dX6_compared_44 : decode cX6_compared 44 = .ok (.aload_n 0, 1) := by decide +kernel
theorem dX6_compared_45 : decode cX6_compared 45 = .ok (.invokevirtual 86, 3) := by decide +kernel
theorem dX6_compared_48 : decode cX6_compared 48 = .ok (.ifCond .ne 5, 3) := by decide +kernel
theorem dX6_compared_51 : decode cX6_compared 51 = .ok (.iconst 0, 1) := by decide +kernel
theorem dX6_compared_52 : decode cX6_compared 52 = .ok (.ireturn, 1) := by decide +kernel
theorem dX6_compared_53 : decode cX6_compared 53 = .ok (.aload_n 0, 1) := by decide +kernel
theorem dX6_compared_54 : decode cX6_compared 54 = .ok (.iconst 3, 1) := by decide +kernel
theorem dX6_compared_55 : decode cX6_compared 55 = .ok (.iload_n 1, 1) := by decide +kernel
theorem dX6_compared_56 : decode cX6_compared 56 = .ok (.invokevirtual 79, 3) := by decide +kernel
theorem dX6_compared_59 : decode cX6_compared 59 = .ok (.iconst 1, 1) := by decide +kernel
theorem dX6_compared_60 : decode cX6_compared 60 = .ok (.ireturn, 1) := by decide +kernel
set_option maxRecDepth 20000 in
theorem ggX6_sum_X6_product : GoodIn wsX6_sum wsX6_product := goodIn_r _ [45, 1, 39, 40, 41, 5, 6, 7, 8, 9, 10, 11, 12, 13, 14, 15, 16, 17, 18, 19, 20, 21, 22, 23, 24, 25, 26, 27, 28, 29, 30, 31, 32, 33, 34, 35, 36, 37, 38, 42, 43, 44, 0, 2, 3, 4, 46, 47, 48, 49, 50, 51, 52, 53, 54, 55, 56, 57, 58, 59, 60, 61, 62, 63, 64, 65, 66, 67, 68, 69] (by decide +kernel) (by decide +kernel)
set_option maxRecDepth 20000 in
theorem gX6_sum_X6_product : GoodIn wsX6_sum (wsV RX6 89 RX6 yX6_product wsX6_product) := goodIn_app (goodIn_of _ (by decide +kernel)) ggX6_sum_X6_product
set_option maxRecDepth 20000 in
theorem ggX6_sum_X6_look : GoodIn wsX6_sum wsX6_look := goodIn_r _ [9, 1, 10, 50, 51, 52, 53, 54, 55, 56, 57, 58, 59, 60, 61, 62, 63, 64, 65, 66, 67, 68, 69] (by decide +kernel) (by decide +kernel)
set_option maxRecDepth 20000 in
theorem gX6_sum_X6_look : GoodIn wsX6_sum (wsV RX6 75 RX6 yX6_look wsX6_look) := goodIn_app (goodIn_of _ (by decide +kernel)) ggX6_sum_X6_look
set_option maxRecDepth 20000 in
theorem ggX6_sum_X6_step1 : GoodIn wsX6_sum wsX6_step1 := goodIn_r _ [14, 15, 16, 50, 51, 52, 53, 54, 55, 56, 57, 58, 59, 60, 61, 62, 63, 64, 65, 66, 67, 68, 69] (by decide +kernel) (by decide +kernel)
set_option maxRecDepth 20000 in
theorem gX6_sum_X6_step1 : GoodIn wsX6_sum (wsV RX6 79 RX6 yX6_step1 wsX6_step1) := goodIn_app (goodIn_of _ (by decide +kernel)) ggX6_sum_X6_step1
theorem dX6_sum_0 : decode cX6_sum 0 = .ok (.aload_n 0, 1) := by decide +kernel
theorem dX6_sum_1 : decode cX6_sum 1 = .ok (.invokevirtual 89, 3) := by decide +kernel
theorem dX6_sum_4 : decode cX6_sum 4 = .ok (.ifCond .ne 5, 3) := by decide +kernel
theorem dX6_sum_7 : decode cX6_sum 7 = .ok (.iconst 0, 1) := by decide +kernel
theorem dX6_sum_8 : decode cX6_sum 8 = .ok (.ireturn, 1) := by decide +kernel
theorem dX6_sum_9 : decode cX6_sum 9 = .ok (.aload_n 0, 1) := by decide +kernel
theorem dX6_sum_10 : decode cX6_sum 10 = .ok (.invokevirtual 75, 3) := by decide +kernel
theorem dX6_sum_13 : decode cX6_sum 13 = .ok (.bipush 43, 2) := by decide +kernel
theorem dX6_sum_15 : decode cX6_sum 15 = .ok (.if_icmp .eq 12, 3) := by decide +kernel
theorem dX6_sum_18 : decode cX6_sum 18 = .ok (.aload_n 0, 1) := by decide +kernel
theorem dX6_sum_19 : decode cX6_sum 19 = .ok (.invokevirtual 75, 3) := by decide +kernel
theorem dX6_sum_22 : decode cX6_sum 22 = .ok (.bipush 45, 2) := by decide +kernel
theorem dX6_sum_24 : decode cX6_sum 24 = .ok (.if_icmp .ne 36, 3) := by decide +kernel
theorem dX6_sum_27 : decode cX6_sum 27 = .ok (.aload_n 0, 1) := by decide +kernel
theorem dX6_sum_28 : decode cX6_sum 28 = .ok (.invokevirtual 75, 3) := by decide +kernel
theorem dX6_sum_31 : decode cX6_sum 31 = .ok (.istore_n 1, 1) := by decide +kernel
theorem dX6_sum_32 : decode cX6_sum 32 = .ok (.aload_n 0, 1) := by decide +kernel
theorem dX6_sum_33 : decode cX6_sum 33 = .ok (.dup, 1) := by decide +kernel
theorem dX6_sum_34 : decode cX6_sum 34 = .ok (.getfield 61, 3) := by decide +kernel
theorem dX6_sum_37 : decode cX6_sum 37 = .ok (.iconst 1, 1) := by decide +kernel
theorem dX6_sum_38 : decode cX6_sum 38 = .ok (.iadd, 1) := by decide +kernel
theorem dX6_sum_39 : decode cX6_sum 39 = .ok (.putfield 61, 3) := by decide +kernel
theorem dX6_sum_42 : decode cX6_sum 42 = .ok (.aload_n 0, 1) := by decide +kernel
theorem dX6_sum_43 : decode cX6_sum 43 = .ok (.invokevirtual 89, 3) := by decide +kernel
theorem dX6_sum_46 : decode cX6_sum 46 = .ok (.ifCond .ne 5, 3) := by decide +kernel
theorem dX6_sum_49 : decode cX6_sum 49 = .ok (.iconst 0, 1) := by decide +kernel
theorem dX6_sum_50 : decode cX6_sum 50 = .ok (.ireturn, 1) := by decide +kernel
theorem dX6_sum_51 : decode cX6_sum 51 = .ok (.aload_n 0, 1) := by decide +kernel
theorem dX6_sum_52 : decode cX6_sum 52 = .ok (.iconst 3, 1) := by decide +kernel
theorem dX6_sum_53 : decode cX6_sum 53 = .ok (.iload_n 1, 1) := by decide +kernel
theorem dX6_sum_54 : decode cX6_sum 54 = .ok (.invokevirtual 79, 3) := by decide +kernel
theorem dX6_sum_57 : decode cX6_sum 57 = .ok (.goto (-48), 3) := by decide +kernel
theorem dX6_sum_60 : decode cX6_sum 60 = .ok (.iconst 1, 1) := by decide +kernel
theorem dX6_sum_61 : decode cX6_sum 61 = .ok (.ireturn, 1) := by decide +kernel
set_option maxRecDepth 20000 in
theorem ggX6_product_X6_one : GoodIn wsX6_product wsX6_one := goodIn_r _ [25, 1, 26, 6, 7, 8, 5, 9, 10, 27, 28, 29, 30, 31, 11, 12, 13, 14, 15, 16, 32, 33, 34, 35, 36, 37, 38, 2, 3, 4, 39, 40, 41, 17, 18, 19, 20, 21, 22, 23, 24, 0, 42, 43, 44, 45, 46, 47, 48, 49, 50, 51, 52, 53, 54, 55, 56, 57, 58, 59, 60, 61, 62, 63, 64, 65, 66, 67, 68, 69] (by decide +kernel) (by decide +kernel)
set_option maxRecDepth 20000 in
theorem gX6_product_X6_one : GoodIn wsX6_product (wsV RX6 92 RX6 yX6_one wsX6_one) := goodIn_app (goodIn_of _ (by decide +kernel)) ggX6_product_X6_one
set_option maxRecDepth 20000 in
theorem ggX6_product_X6_look : GoodIn wsX6_product wsX6_look := goodIn_r _ [9, 1, 10, 50, 51, 52, 53, 54, 55, 56, 57, 58, 59, 60, 61, 62, 63, 64, 65, 66, 67, 68, 69] (by decide +kernel) (by decide +kernel)
set_option maxRecDepth 20000 in
theorem gX6_product_X6_look : GoodIn wsX6_product (wsV RX6 75 RX6 yX6_look wsX6_look) := goodIn_app (goodIn_of _ (by decide +kernel)) ggX6_product_X6_look
set_option maxRecDepth 20000 in
theorem ggX6_product_X6_step1 : GoodIn wsX6_product wsX6_step1 := goodIn_r _ [14, 15, 16, 50, 51, 52, 53, 54, 55, 56, 57, 58, 59, 60, 61, 62, 63, 64, 65, 66, 67, 68, 69] (by decide +kernel) (by decide +kernel)
set_option maxRecDepth 20000 in
theorem gX6_product_X6_step1 : GoodIn wsX6_product (wsV RX6 79 RX6 yX6_step1 wsX6_step1) := goodIn_app (goodIn_of _ (by decide +kernel)) ggX6_product_X6_step1
theorem dX6_product_0 : decode cX6_product 0 = .ok (.aload_n 0, 1) := by decide +kernel
theorem dX6_product_1 : decode cX6_product 1 = .ok (.invokevirtual 92, 3) := by decide +kernel
theorem dX6_product_4 : decode cX6_product 4 = .ok (.ifCond .ne 5, 3) := by decide +kernel
theorem dX6_product_7 : decode cX6_product 7 = .ok (.iconst 0, 1) := by decide +kernel
theorem dX6_product_8 : decode cX6_product 8 = .ok (.ireturn, 1) := by decide +kernel
theorem dX6_product_9 : decode cX6_product 9 = .ok (.aload_n 0, 1) := by decide +kernel
theorem dX6_product_10 : decode cX6_product 10 = .ok (.invokevirtual 75, 3) := by decide +kernel
theorem dX6_product_13 : decode cX6_product 13 = .ok (.bipush 42, 2) := by decide +kernel
theorem dX6_product_15 : decode cX6_product 15 = .ok (.if_icmp .eq 21, 3) := by decide +kernel
theorem dX6_product_18 : decode cX6_product 18 = .ok (.aload_n 0, 1) := by decide +kernel
theorem dX6_product_19 : decode cX6_product 19 = .ok (.invokevirtual 75, 3) := by decide +kernel
theorem dX6_product_22 : decode cX6_product 22 = .ok (.bipush 47, 2) := by decide +kernel
theorem dX6_product_24 : decode cX6_product 24 = .ok (.if_icmp .eq 12, 3) := by decide +kernel
theorem dX6_product_27 : decode cX6_product 27 = .ok (.aload_n 0, 1) := by decide +kernel
theorem dX6_product_28 : decode cX6_product 28 = .ok (.invokevirtual 75, 3) := by decide +kernel
theorem dX6_product_31 : decode cX6_product 31 = .ok (.bipush 37, 2) := by decide +kernel
theorem dX6_product_33 : decode cX6_product 33 = .ok (.if_icmp .ne 36, 3) := by decide +kernel
theorem dX6_product_36 : decode cX6_product 36 = .ok (.aload_n 0, 1) := by decide +kernel
theorem dX6_product_37 : decode cX6_product 37 = .ok (.invokevirtual 75, 3) := by decide +kernel
theorem dX6_product_40 : decode cX6_product 40 = .ok (.istore_n 1, 1) := by decide +kernel
theorem dX6_product_41 : decode cX6_product 41 = .ok (.aload_n 0, 1) := by decide +kernel
theorem dX6_product_42 : decode cX6_product 42 = .ok (.dup, 1) := by decide +kernel
theorem dX6_product_43 : decode cX6_product 43 = .ok (.getfield 61, 3) := by decide +kernel
theorem dX6_product_46 : decode cX6_product 46 = .ok (.iconst 1, 1) := by decide +kernel
theorem dX6_product_47 : decode cX6_product 47 = .ok (.iadd, 1) := by decide +kernel
theorem dX6_product_48 : decode cX6_product 48 = .ok (.putfield 61, 3) := by decide +kernel
theorem dX6_product_51 : decode cX6_product 51 = .ok (.aload_n 0, 1) := by decide +kernel
theorem dX6_product_52 : decode cX6_product 52 = .ok (.invokevirtual 92, 3) := by decide +kernel
theorem dX6_product_55 : decode cX6_product 55 = .ok (.ifCond .ne 5, 3) := by decide +kernel
theorem dX6_product_58 : decode cX6_product 58 = .ok (.iconst 0, 1) := by decide +kernel
theorem dX6_product_59 : decode cX6_product 59 = .ok (.ireturn, 1) := by decide +kernel
theorem dX6_product_60 : decode cX6_product 60 = .ok (.aload_n 0, 1) := by decide +kernel
theorem dX6_product_61 : decode cX6_product 61 = .ok (.iconst 3, 1) := by decide +kernel
theorem dX6_product_62 : decode cX6_product 62 = .ok (.iload_n 1, 1) := by decide +kernel
theorem dX6_product_63 : decode cX6_product 63 = .ok (.invokevirtual 79, 3) := by decide +kernel
theorem dX6_product_66 : decode cX6_product 66 = .ok (.goto (-57), 3) := by decide +kernel
theorem dX6_product_69 : decode cX6_product 69 = .ok (.iconst 1, 1) := by decide +kernel
theorem dX6_product_70 : decode cX6_product 70 = .ok (.ireturn, 1) := by decide +kernel
theorem dX6_opens_0 : decode cX6_opens 0 = .ok (.aload_n 0, 1) := by decide +kernel
theorem dX6_opens_1 : decode cX6_opens 1 = .ok (.getfield 95, 3) := by decide +kernel
theorem dX6_opens_4 : decode cX6_opens 4 = .ok (.iconst 5, 1) := by decide +kernel
theorem dX6_opens_5 : decode cX6_opens 5 = .ok (.if_icmp .ne 5, 3) := by decide +kernel
theorem dX6_opens_8 : decode cX6_opens 8 = .ok (.iconst 0, 1) := by decide +kernel
theorem dX6_opens_9 : decode cX6_opens 9 = .ok (.ireturn, 1) := by decide +kernel
theorem dX6_opens_10 : decode cX6_opens 10 = .ok (.aload_n 0, 1) := by decide +kernel
theorem dX6_opens_11 : decode cX6_opens 11 = .ok (.dup, 1) := by decide +kernel
theorem dX6_opens_12 : decode cX6_opens 12 = .ok (.getfield 95, 3) := by decide +kernel
theorem dX6_opens_15 : decode cX6_opens 15 = .ok (.iconst 1, 1) := by decide +kernel
theorem dX6_opens_16 : decode cX6_opens 16 = .ok (.iadd, 1) := by decide +kernel
theorem dX6_opens_17 : decode cX6_opens 17 = .ok (.putfield 95, 3) := by decide +kernel
theorem dX6_opens_20 : decode cX6_opens 20 = .ok (.aload_n 0, 1) := by decide +kernel
theorem dX6_opens_21 : decode cX6_opens 21 = .ok (.dup, 1) := by decide +kernel
theorem dX6_opens_22 : decode cX6_opens 22 = .ok (.getfield 61, 3) := by decide +kernel
theorem dX6_opens_25 : decode cX6_opens 25 = .ok (.iconst 1, 1) := by decide +kernel
theorem dX6_opens_26 : decode cX6_opens 26 = .ok (.iadd, 1) := by decide +kernel
theorem dX6_opens_27 : decode cX6_opens 27 = .ok (.putfield 61, 3) := by decide +kernel
theorem dX6_opens_30 : decode cX6_opens 30 = .ok (.iconst 1, 1) := by decide +kernel
theorem dX6_opens_31 : decode cX6_opens 31 = .ok (.ireturn, 1) := by decide +kernel
set_option maxRecDepth 20000 in
theorem ggX6_one_X6_look : GoodIn wsX6_one wsX6_look := goodIn_r _ [7, 1, 8, 50, 51, 52, 53, 54, 55, 56, 57, 58, 59, 60, 61, 62, 63, 64, 65, 66, 67, 68, 69] (by decide +kernel) (by decide +kernel)
set_option maxRecDepth 20000 in
theorem gX6_one_X6_look : GoodIn wsX6_one (wsV RX6 75 RX6 yX6_look wsX6_look) := goodIn_app (goodIn_of _ (by decide +kernel)) ggX6_one_X6_look
set_option maxRecDepth 20000 in
theorem ggX6_one_X6_isName : GoodIn wsX6_one wsX6_isName := goodIn_r _ [12, 13, 50, 51, 52, 53, 54, 55, 56, 57, 58, 59, 60, 61, 62, 63, 64, 65, 66, 67, 68, 69] (by decide +kernel) (by decide +kernel)
set_option maxRecDepth 20000 in
theorem gX6_one_X6_isName : GoodIn wsX6_one (wsV RX6 98 RX6 yX6_isName wsX6_isName) := goodIn_app (goodIn_of _ (by decide +kernel)) ggX6_one_X6_isName
set_option maxRecDepth 20000 in
theorem ggX6_one_X6_step1 : GoodIn wsX6_one wsX6_step1 := goodIn_r _ [17, 18, 19, 50, 51, 52, 53, 54, 55, 56, 57, 58, 59, 60, 61, 62, 63, 64, 65, 66, 67, 68, 69] (by decide +kernel) (by decide +kernel)
set_option maxRecDepth 20000 in
theorem gX6_one_X6_step1 : GoodIn wsX6_one (wsV RX6 79 RX6 yX6_step1 wsX6_step1) := goodIn_app (goodIn_of _ (by decide +kernel)) ggX6_one_X6_step1
set_option maxRecDepth 20000 in
theorem ggX6_one_X6_in : GoodIn wsX6_one wsX6_in := goodIn_r _ [22] (by decide +kernel) (by decide +kernel)
set_option maxRecDepth 20000 in
theorem gX6_one_X6_in : GoodIn wsX6_one (va_wsS RX6 51 yX6_in wsX6_in) := goodIn_app (goodIn_of _ (by decide +kernel)) ggX6_one_X6_in
set_option maxRecDepth 20000 in
theorem ggX6_one_X6_opens : GoodIn wsX6_one wsX6_opens := goodIn_r _ [26, 2, 1, 50, 51, 52, 53, 54, 55, 56, 57, 58, 59, 60, 61, 62, 63, 64, 65, 66, 67, 68, 69] (by decide +kernel) (by decide +kernel)
set_option maxRecDepth 20000 in
theorem gX6_one_X6_opens : GoodIn wsX6_one (wsV RX6 102 RX6 yX6_opens wsX6_opens) := goodIn_app (goodIn_of _ (by decide +kernel)) ggX6_one_X6_opens
set_option maxRecDepth 20000 in
theorem ggX6_one_X6_one : GoodIn wsX6_one wsX6_one := goodIn_r _ [0, 1, 2, 3, 4, 5, 6, 7, 8, 9, 10, 11, 12, 13, 14, 15, 16, 17, 18, 19, 20, 21, 22, 23, 24, 25, 26, 27, 28, 29, 30, 31, 32, 33, 34, 35, 36, 37, 38, 39, 40, 41, 42, 43, 44, 45, 46, 47, 48, 49, 50, 51, 52, 53, 54, 55, 56, 57, 58, 59, 60, 61, 62, 63, 64, 65, 66, 67, 68, 69] (by decide +kernel) (by decide +kernel)
set_option maxRecDepth 20000 in
theorem gX6_one_X6_one : GoodIn wsX6_one (wsV RX6 92 RX6 yX6_one wsX6_one) := goodIn_app (goodIn_of _ (by decide +kernel)) ggX6_one_X6_one
set_option maxRecDepth 20000 in
theorem ggX6_one_X6_whole : GoodIn wsX6_one wsX6_whole := goodIn_r _ [46, 1, 47, 48, 49, 6, 3, 4, 5, 7, 8, 14, 15, 16, 17, 18, 19, 33, 34, 35, 36, 37, 38, 39, 40, 0, 2, 9, 10, 11, 12, 13, 20, 21, 22, 23, 24, 25, 26, 27, 28, 29, 30, 31, 32, 41, 42, 43, 44, 45, 50, 51, 52, 53, 54, 55, 56, 57, 58, 59, 60, 61, 62, 63, 64, 65, 66, 67, 68, 69] (by decide +kernel) (by decide +kernel)
set_option maxRecDepth 20000 in
theorem gX6_one_X6_whole : GoodIn wsX6_one (wsV RX6 105 RX6 yX6_whole wsX6_whole) := goodIn_app (goodIn_of _ (by decide +kernel)) ggX6_one_X6_whole
theorem dX6_one_0 : decode cX6_one 0 = .ok (.aload_n 0, 1) := by decide +kernel
theorem dX6_one_1 : decode cX6_one 1 = .ok (.invokevirtual 75, 3) := by decide +kernel
theorem dX6_one_4 : decode cX6_one 4 = .ok (.istore_n 1, 1) := by decide +kernel
theorem dX6_one_5 : decode cX6_one 5 = .ok (.aload_n 0, 1) := by decide +kernel
theorem dX6_one_6 : decode cX6_one 6 = .ok (.iload_n 1, 1) := by decide +kernel
theorem dX6_one_7 : decode cX6_one 7 = .ok (.invokevirtual 98, 3) := by decide +kernel
theorem dX6_one_10 : decode cX6_one 10 = .ok (.ifCond .eq 21, 3) := by decide +kernel
theorem dX6_one_13 : decode cX6_one 13 = .ok (.aload_n 0, 1) := by decide +kernel
theorem dX6_one_14 : decode cX6_one 14 = .ok (.dup, 1) := by decide +kernel
theorem dX6_one_15 : decode cX6_one 15 = .ok (.getfield 61, 3) := by decide +kernel
theorem dX6_one_18 : decode cX6_one 18 = .ok (.iconst 1, 1) := by decide +kernel
theorem dX6_one_19 : decode cX6_one 19 = .ok (.iadd, 1) := by decide +kernel
theorem dX6_one_20 : decode cX6_one 20 = .ok (.putfield 61, 3) := by decide +kernel
theorem dX6_one_23 : decode cX6_one 23 = .ok (.aload_n 0, 1) := by decide +kernel
theorem dX6_one_24 : decode cX6_one 24 = .ok (.iconst 1, 1) := by decide +kernel
theorem dX6_one_25 : decode cX6_one 25 = .ok (.iload_n 1, 1) := by decide +kernel
theorem dX6_one_26 : decode cX6_one 26 = .ok (.invokevirtual 79, 3) := by decide +kernel
theorem dX6_one_29 : decode cX6_one 29 = .ok (.iconst 1, 1) := by decide +kernel
theorem dX6_one_30 : decode cX6_one 30 = .ok (.ireturn, 1) := by decide +kernel
theorem dX6_one_31 : decode cX6_one 31 = .ok (.iload_n 1, 1) := by decide +kernel
theorem dX6_one_32 : decode cX6_one 32 = .ok (.bipush 48, 2) := by decide +kernel
theorem dX6_one_34 : decode cX6_one 34 = .ok (.bipush 57, 2) := by decide +kernel
theorem dX6_one_36 : decode cX6_one 36 = .ok (.invokestatic 51, 3) := by decide +kernel
theorem dX6_one_39 : decode cX6_one 39 = .ok (.ifCond .eq 63, 3) := by decide +kernel
theorem dX6_one_42 : decode cX6_one 42 = .ok (.iconst 0, 1) := by decide +kernel
theorem dX6_one_43 : decode cX6_one 43 = .ok (.istore_n 2, 1) := by decide +kernel
theorem dX6_one_44 : decode cX6_one 44 = .ok (.iconst 0, 1) := by decide +kernel
theorem dX6_one_45 : decode cX6_one 45 = .ok (.istore_n 3, 1) := by decide +kernel
theorem dX6_one_46 : decode cX6_one 46 = .ok (.iload_n 3, 1) := by decide +kernel
theorem dX6_one_47 : decode cX6_one 47 = .ok (.iconst 4, 1) := by decide +kernel
theorem dX6_one_48 : decode cX6_one 48 = .ok (.if_icmp .ge 46, 3) := by decide +kernel
theorem dX6_one_51 : decode cX6_one 51 = .ok (.aload_n 0, 1) := by decide +kernel
theorem dX6_one_52 : decode cX6_one 52 = .ok (.invokevirtual 75, 3) := by decide +kernel
theorem dX6_one_55 : decode cX6_one 55 = .ok (.bipush 48, 2) := by decide +kernel
theorem dX6_one_57 : decode cX6_one 57 = .ok (.bipush 57, 2) := by decide +kernel
theorem dX6_one_59 : decode cX6_one 59 = .ok (.invokestatic 51, 3) := by decide +kernel
theorem dX6_one_62 : decode cX6_one 62 = .ok (.ifCond .eq 32, 3) := by decide +kernel
theorem dX6_one_65 : decode cX6_one 65 = .ok (.bipush 10, 2) := by decide +kernel
theorem dX6_one_67 : decode cX6_one 67 = .ok (.iload_n 2, 1) := by decide +kernel
theorem dX6_one_68 : decode cX6_one 68 = .ok (.imul, 1) := by decide +kernel
theorem dX6_one_69 : decode cX6_one 69 = .ok (.aload_n 0, 1) := by decide +kernel
theorem dX6_one_70 : decode cX6_one 70 = .ok (.invokevirtual 75, 3) := by decide +kernel
theorem dX6_one_73 : decode cX6_one 73 = .ok (.iadd, 1) := by decide +kernel
theorem dX6_one_74 : decode cX6_one 74 = .ok (.bipush 48, 2) := by decide +kernel
theorem dX6_one_76 : decode cX6_one 76 = .ok (.isub, 1) := by decide +kernel
theorem dX6_one_77 : decode cX6_one 77 = .ok (.istore_n 2, 1) := by decide +kernel
theorem dX6_one_78 : decode cX6_one 78 = .ok (.aload_n 0, 1) := by decide +kernel
theorem dX6_one_79 : decode cX6_one 79 = .ok (.dup, 1) := by decide +kernel
theorem dX6_one_80 : decode cX6_one 80 = .ok (.getfield 61, 3) := by decide +kernel
theorem dX6_one_83 : decode cX6_one 83 = .ok (.iconst 1, 1) := by decide +kernel
theorem dX6_one_84 : decode cX6_one 84 = .ok (.iadd, 1) := by decide +kernel
theorem dX6_one_85 : decode cX6_one 85 = .ok (.putfield 61, 3) := by decide +kernel
theorem dX6_one_88 : decode cX6_one 88 = .ok (.iinc 3 1, 3) := by decide +kernel
theorem dX6_one_91 : decode cX6_one 91 = .ok (.goto (-45), 3) := by decide +kernel
theorem dX6_one_94 : decode cX6_one 94 = .ok (.aload_n 0, 1) := by decide +kernel
theorem dX6_one_95 : decode cX6_one 95 = .ok (.iconst 0, 1) := by decide +kernel
theorem dX6_one_96 : decode cX6_one 96 = .ok (.iload_n 2, 1) := by decide +kernel
theorem dX6_one_97 : decode cX6_one 97 = .ok (.invokevirtual 79, 3) := by decide +kernel
theorem dX6_one_100 : decode cX6_one 100 = .ok (.iconst 1, 1) := by decide +kernel
theorem dX6_one_101 : decode cX6_one 101 = .ok (.ireturn, 1) := by decide +kernel
theorem dX6_one_102 : decode cX6_one 102 = .ok (.iload_n 1, 1) := by decide +kernel
theorem dX6_one_103 : decode cX6_one 103 = .ok (.bipush 33, 2) := by decide +kernel
theorem dX6_one_105 : decode cX6_one 105 = .ok (.if_icmp .ne 37, 3) := by decide +kernel
theorem dX6_one_108 : decode cX6_one 108 = .ok (.aload_n 0, 1) := by decide +kernel
theorem dX6_one_109 : decode cX6_one 109 = .ok (.invokevirtual 102, 3) := by decide +kernel
theorem dX6_one_112 : decode cX6_one 112 = .ok (.ifCond .eq 10, 3) := by decide +kernel
theorem dX6_one_115 : decode cX6_one 115 = .ok (.aload_n 0, 1) := by decide +kernel
theorem dX6_one_116 : decode cX6_one 116 = .ok (.invokevirtual 92, 3) := by decide +kernel
theorem dX6_one_119 : decode cX6_one 119 = .ok (.ifCond .ne 5, 3) := by decide +kernel
theorem dX6_one_122 : decode cX6_one 122 = .ok (.iconst 0, 1) := by decide +kernel
theorem dX6_one_123 : decode cX6_one 123 = .ok (.ireturn, 1) := by decide +kernel
theorem dX6_one_124 : decode cX6_one 124 = .ok (.aload_n 0, 1) := by decide +kernel
theorem dX6_one_125 : decode cX6_one 125 = .ok (.dup, 1) := by decide +kernel
theorem dX6_one_126 : decode cX6_one 126 = .ok (.getfield 95, 3) := by decide +kernel
theorem dX6_one_129 : decode cX6_one 129 = .ok (.iconst 1, 1) := by decide +kernel
theorem dX6_one_130 : decode cX6_one 130 = .ok (.isub, 1) := by decide +kernel
theorem dX6_one_131 : decode cX6_one 131 = .ok (.putfield 95, 3) := by decide +kernel
theorem dX6_one_134 : decode cX6_one 134 = .ok (.aload_n 0, 1) := by decide +kernel
theorem dX6_one_135 : decode cX6_one 135 = .ok (.iconst 2, 1) := by decide +kernel
theorem dX6_one_136 : decode cX6_one 136 = .ok (.iconst 0, 1) := by decide +kernel
theorem dX6_one_137 : decode cX6_one 137 = .ok (.invokevirtual 79, 3) := by decide +kernel
theorem dX6_one_140 : decode cX6_one 140 = .ok (.iconst 1, 1) := by decide +kernel
theorem dX6_one_141 : decode cX6_one 141 = .ok (.ireturn, 1) := by decide +kernel
theorem dX6_one_142 : decode cX6_one 142 = .ok (.iload_n 1, 1) := by decide +kernel
theorem dX6_one_143 : decode cX6_one 143 = .ok (.bipush 40, 2) := by decide +kernel
theorem dX6_one_145 : decode cX6_one 145 = .ok (.if_icmp .ne 26, 3) := by decide +kernel
theorem dX6_one_148 : decode cX6_one 148 = .ok (.aload_n 0, 1) := by decide +kernel
theorem dX6_one_149 : decode cX6_one 149 = .ok (.invokevirtual 102, 3) := by decide +kernel
theorem dX6_one_152 : decode cX6_one 152 = .ok (.ifCond .eq 19, 3) := by decide +kernel
theorem dX6_one_155 : decode cX6_one 155 = .ok (.aload_n 0, 1) := by decide +kernel
theorem dX6_one_156 : decode cX6_one 156 = .ok (.invokevirtual 105, 3) := by decide +kernel
theorem dX6_one_159 : decode cX6_one 159 = .ok (.ifCond .eq 12, 3) := by decide +kernel
theorem dX6_one_162 : decode cX6_one 162 = .ok (.aload_n 0, 1) := by decide +kernel
theorem dX6_one_163 : decode cX6_one 163 = .ok (.invokevirtual 75, 3) := by decide +kernel
theorem dX6_one_166 : decode cX6_one 166 = .ok (.bipush 41, 2) := by decide +kernel
theorem dX6_one_168 : decode cX6_one 168 = .ok (.if_icmp .eq 5, 3) := by decide +kernel
theorem dX6_one_171 : decode cX6_one 171 = .ok (.iconst 0, 1) := by decide +kernel
theorem dX6_one_172 : decode cX6_one 172 = .ok (.ireturn, 1) := by decide +kernel
theorem dX6_one_173 : decode cX6_one 173 = .ok (.aload_n 0, 1) := by decide +kernel
theorem dX6_one_174 : decode cX6_one 174 = .ok (.dup, 1) := by decide +kernel
theorem dX6_one_175 : decode cX6_one 175 = .ok (.getfield 61, 3) := by decide +kernel
theorem dX6_one_178 : decode cX6_one 178 = .ok (.iconst 1, 1) := by decide +kernel
theorem dX6_one_179 : decode cX6_one 179 = .ok (.iadd, 1) := by decide +kernel
theorem dX6_one_180 : decode cX6_one 180 = .ok (.putfield 61, 3) := by decide +kernel
theorem dX6_one_183 : decode cX6_one 183 = .ok (.aload_n 0, 1) := by decide +kernel
theorem dX6_one_184 : decode cX6_one 184 = .ok (.dup, 1) := by decide +kernel
theorem dX6_one_185 : decode cX6_one 185 = .ok (.getfield 95, 3) := by decide +kernel
theorem dX6_one_188 : decode cX6_one 188 = .ok (.iconst 1, 1) := by decide +kernel
theorem dX6_one_189 : decode cX6_one 189 = .ok (.isub, 1) := by decide +kernel
theorem dX6_one_190 : decode cX6_one 190 = .ok (.putfield 95, 3) := by decide +kernel
theorem dX6_one_193 : decode cX6_one 193 = .ok (.iconst 1, 1) := by decide +kernel
theorem dX6_one_194 : decode cX6_one 194 = .ok (.ireturn, 1) := by decide +kernel
theorem dX6_hasText_0 : decode cX6_hasText 0 = .ok (.aload_n 0, 1) := by decide +kernel
theorem dX6_hasText_1 : decode cX6_hasText 1 = .ok (.getfield 7, 3) := by decide +kernel
theorem dX6_hasText_4 : decode cX6_hasText 4 = .ok (.bipush 46, 2) := by decide +kernel
theorem dX6_hasText_6 : decode cX6_hasText 6 = .ok (.bipush 125, 2) := by decide +kernel
theorem dX6_hasText_8 : decode cX6_hasText 8 = .ok (.iload_n 1, 1) := by decide +kernel
theorem dX6_hasText_9 : decode cX6_hasText 9 = .ok (.imul, 1) := by decide +kernel
theorem dX6_hasText_10 : decode cX6_hasText 10 = .ok (.iadd, 1) := by decide +kernel
theorem dX6_hasText_11 : decode cX6_hasText 11 = .ok (.iaload, 1) := by decide +kernel
theorem dX6_hasText_12 : decode cX6_hasText 12 = .ok (.ifCond .le 7, 3) := by decide +kernel
theorem dX6_hasText_15 : decode cX6_hasText 15 = .ok (.iconst 1, 1) := by decide +kernel
theorem dX6_hasText_16 : decode cX6_hasText 16 = .ok (.goto 4, 3) := by decide +kernel
theorem dX6_hasText_19 : decode cX6_hasText 19 = .ok (.iconst 0, 1) := by decide +kernel
theorem dX6_hasText_20 : decode cX6_hasText 20 = .ok (.ireturn, 1) := by decide +kernel
set_option maxRecDepth 20000 in
theorem ggX6_text_X6_in : GoodIn wsX6_text wsX6_in := goodIn_r _ [10] (by decide +kernel) (by decide +kernel)
set_option maxRecDepth 20000 in
theorem gX6_text_X6_in : GoodIn wsX6_text (va_wsS RX6 51 yX6_in wsX6_in) := goodIn_app (goodIn_of _ (by decide +kernel)) ggX6_text_X6_in
set_option maxRecDepth 20000 in
theorem ggX6_text_X6_error : GoodIn wsX6_text wsX6_error := goodIn_r _ [14, 15, 16, 57, 58, 59, 60, 61, 62, 63, 64, 65, 66, 67, 68, 69, 70, 71, 72, 73, 74, 75, 76] (by decide +kernel) (by decide +kernel)
set_option maxRecDepth 20000 in
theorem gX6_text_X6_error : GoodIn wsX6_text (wsV RX6 55 RX6 yX6_error wsX6_error) := goodIn_app (goodIn_of _ (by decide +kernel)) ggX6_text_X6_error
set_option maxRecDepth 20000 in
theorem ggX6_text_X6_whole : GoodIn wsX6_text wsX6_whole := goodIn_r _ [20, 2, 21, 22, 23, 9, 24, 25, 26, 27, 5, 28, 29, 30, 31, 6, 4, 32, 33, 34, 35, 36, 37, 38, 39, 40, 3, 41, 42, 43, 44, 1, 7, 8, 10, 45, 46, 47, 48, 49, 50, 51, 17, 18, 19, 52, 53, 54, 55, 56, 57, 58, 59, 60, 61, 62, 63, 64, 65, 66, 67, 68, 69, 70, 71, 72, 73, 74, 75, 76] (by decide +kernel) (by decide +kernel)
set_option maxRecDepth 20000 in
theorem gX6_text_X6_whole : GoodIn wsX6_text (wsV RX6 105 RX6 yX6_whole wsX6_whole) := goodIn_app (goodIn_of _ (by decide +kernel)) ggX6_text_X6_whole
theorem dX6_text_0 : decode cX6_text 0 = .ok (.iload_n 1, 1) := by decide +kernel
theorem dX6_text_1 : decode cX6_text 1 = .ok (.iconst 0, 1) := by decide +kernel
theorem dX6_text_2 : decode cX6_text 2 = .ok (.iconst 1, 1) := by decide +kernel
theorem dX6_text_3 : decode cX6_text 3 = .ok (.invokestatic 51, 3) := by decide +kernel
theorem dX6_text_6 : decode cX6_text 6 = .ok (.ifCond .ne 9, 3) := by decide +kernel
theorem dX6_text_9 : decode cX6_text 9 = .ok (.aload_n 0, 1) := by decide +kernel
theorem dX6_text_10 : decode cX6_text 10 = .ok (.iconst 1, 1) := by decide +kernel
theorem dX6_text_11 : decode cX6_text 11 = .ok (.invokevirtual 55, 3) := by decide +kernel
theorem dX6_text_14 : decode cX6_text 14 = .ok (.ireturn, 1) := by decide +kernel
theorem dX6_text_15 : decode cX6_text 15 = .ok (.aload_n 0, 1) := by decide +kernel
theorem dX6_text_16 : decode cX6_text 16 = .ok (.iload_n 1, 1) := by decide +kernel
theorem dX6_text_17 : decode cX6_text 17 = .ok (.putfield 65, 3) := by decide +kernel
theorem dX6_text_20 : decode cX6_text 20 = .ok (.aload_n 0, 1) := by decide +kernel
theorem dX6_text_21 : decode cX6_text 21 = .ok (.iconst 0, 1) := by decide +kernel
theorem dX6_text_22 : decode cX6_text 22 = .ok (.putfield 61, 3) := by decide +kernel
theorem dX6_text_25 : decode cX6_text 25 = .ok (.aload_n 0, 1) := by decide +kernel
theorem dX6_text_26 : decode cX6_text 26 = .ok (.iconst 0, 1) := by decide +kernel
theorem dX6_text_27 : decode cX6_text 27 = .ok (.putfield 95, 3) := by decide +kernel
theorem dX6_text_30 : decode cX6_text 30 = .ok (.aload_n 0, 1) := by decide +kernel
theorem dX6_text_31 : decode cX6_text 31 = .ok (.iconst 0, 1) := by decide +kernel
theorem dX6_text_32 : decode cX6_text 32 = .ok (.putfield 68, 3) := by decide +kernel
theorem dX6_text_35 : decode cX6_text 35 = .ok (.aload_n 0, 1) := by decide +kernel
theorem dX6_text_36 : decode cX6_text 36 = .ok (.invokevirtual 105, 3) := by decide +kernel
theorem dX6_text_39 : decode cX6_text 39 = .ok (.ifCond .eq 20, 3) := by decide +kernel
theorem dX6_text_42 : decode cX6_text 42 = .ok (.aload_n 0, 1) := by decide +kernel
theorem dX6_text_43 : decode cX6_text 43 = .ok (.getfield 61, 3) := by decide +kernel
theorem dX6_text_46 : decode cX6_text 46 = .ok (.aload_n 0, 1) := by decide +kernel
theorem dX6_text_47 : decode cX6_text 47 = .ok (.getfield 7, 3) := by decide +kernel
theorem dX6_text_50 : decode cX6_text 50 = .ok (.iconst 4, 1) := by decide +kernel
theorem dX6_text_51 : decode cX6_text 51 = .ok (.iaload, 1) := by decide +kernel
theorem dX6_text_52 : decode cX6_text 52 = .ok (.if_icmp .ne 7, 3) := by decide +kernel
theorem dX6_text_55 : decode cX6_text 55 = .ok (.iconst 1, 1) := by decide +kernel
theorem dX6_text_56 : decode cX6_text 56 = .ok (.goto 4, 3) := by decide +kernel
theorem dX6_text_59 : decode cX6_text 59 = .ok (.iconst 0, 1) := by decide +kernel
theorem dX6_text_60 : decode cX6_text 60 = .ok (.istore_n 2, 1) := by decide +kernel
theorem dX6_text_61 : decode cX6_text 61 = .ok (.aload_n 0, 1) := by decide +kernel
theorem dX6_text_62 : decode cX6_text 62 = .ok (.getfield 7, 3) := by decide +kernel
theorem dX6_text_65 : decode cX6_text 65 = .ok (.iconst 4, 1) := by decide +kernel
theorem dX6_text_66 : decode cX6_text 66 = .ok (.iconst 0, 1) := by decide +kernel
theorem dX6_text_67 : decode cX6_text 67 = .ok (.iastore, 1) := by decide +kernel
theorem dX6_text_68 : decode cX6_text 68 = .ok (.iload_n 2, 1) := by decide +kernel
theorem dX6_text_69 : decode cX6_text 69 = .ok (.ifCond .ne 11, 3) := by decide +kernel
theorem dX6_text_72 : decode cX6_text 72 = .ok (.bipush (-10), 2) := by decide +kernel
theorem dX6_text_74 : decode cX6_text 74 = .ok (.aload_n 0, 1) := by decide +kernel
theorem dX6_text_75 : decode cX6_text 75 = .ok (.getfield 61, 3) := by decide +kernel
theorem dX6_text_78 : decode cX6_text 78 = .ok (.isub, 1) := by decide +kernel
theorem dX6_text_79 : decode cX6_text 79 = .ok (.ireturn, 1) := by decide +kernel
theorem dX6_text_80 : decode cX6_text 80 = .ok (.bipush 46, 2) := by decide +kernel
theorem dX6_text_82 : decode cX6_text 82 = .ok (.bipush 125, 2) := by decide +kernel
theorem dX6_text_84 : decode cX6_text 84 = .ok (.iload_n 1, 1) := by decide +kernel
theorem dX6_text_85 : decode cX6_text 85 = .ok (.imul, 1) := by decide +kernel
theorem dX6_text_86 : decode cX6_text 86 = .ok (.iadd, 1) := by decide +kernel
theorem dX6_text_87 : decode cX6_text 87 = .ok (.istore_n 3, 1) := by decide +kernel
theorem dX6_text_88 : decode cX6_text 88 = .ok (.aload_n 0, 1) := by decide +kernel
theorem dX6_text_89 : decode cX6_text 89 = .ok (.getfield 7, 3) := by decide +kernel
theorem dX6_text_92 : decode cX6_text 92 = .ok (.iload_n 3, 1) := by decide +kernel
theorem dX6_text_93 : decode cX6_text 93 = .ok (.aload_n 0, 1) := by decide +kernel
theorem dX6_text_94 : decode cX6_text 94 = .ok (.getfield 68, 3) := by decide +kernel
theorem dX6_text_97 : decode cX6_text 97 = .ok (.iastore, 1) := by decide +kernel
theorem dX6_text_98 : decode cX6_text 98 = .ok (.iconst 0, 1) := by decide +kernel
theorem dX6_text_99 : decode cX6_text 99 = .ok (.istore 4, 2) := by decide +kernel
theorem dX6_text_101 : decode cX6_text 101 = .ok (.iload 4, 2) := by decide +kernel
theorem dX6_text_103 : decode cX6_text 103 = .ok (.iconst 2, 1) := by decide +kernel
theorem dX6_text_104 : decode cX6_text 104 = .ok (.aload_n 0, 1) := by decide +kernel
theorem dX6_text_105 : decode cX6_text 105 = .ok (.getfield 68, 3) := by decide +kernel
theorem dX6_text_108 : decode cX6_text 108 = .ok (.imul, 1) := by decide +kernel
theorem dX6_text_109 : decode cX6_text 109 = .ok (.if_icmp .ge 27, 3) := by decide +kernel
theorem dX6_text_112 : decode cX6_text 112 = .ok (.aload_n 0, 1) := by decide +kernel
theorem dX6_text_113 : decode cX6_text 113 = .ok (.getfield 7, 3) := by decide +kernel
theorem dX6_text_116 : decode cX6_text 116 = .ok (.iload_n 3, 1) := by decide +kernel
theorem dX6_text_117 : decode cX6_text 117 = .ok (.iconst 1, 1) := by decide +kernel
theorem dX6_text_118 : decode cX6_text 118 = .ok (.iadd, 1) := by decide +kernel
theorem dX6_text_119 : decode cX6_text 119 = .ok (.iload 4, 2) := by decide +kernel
theorem dX6_text_121 : decode cX6_text 121 = .ok (.iadd, 1) := by decide +kernel
theorem dX6_text_122 : decode cX6_text 122 = .ok (.aload_n 0, 1) := by decide +kernel
theorem dX6_text_123 : decode cX6_text 123 = .ok (.getfield 22, 3) := by decide +kernel
theorem dX6_text_126 : decode cX6_text 126 = .ok (.iload 4, 2) := by decide +kernel
theorem dX6_text_128 : decode cX6_text 128 = .ok (.iaload, 1) := by decide +kernel
theorem dX6_text_129 : decode cX6_text 129 = .ok (.iastore, 1) := by decide +kernel
theorem dX6_text_130 : decode cX6_text 130 = .ok (.iinc 4 1, 3) := by decide +kernel
theorem dX6_text_133 : decode cX6_text 133 = .ok (.goto (-32), 3) := by decide +kernel
theorem dX6_text_136 : decode cX6_text 136 = .ok (.iconst 1, 1) := by decide +kernel
theorem dX6_text_137 : decode cX6_text 137 = .ok (.ireturn, 1) := by decide +kernel
set_option maxRecDepth 20000 in
theorem ggX6_untell_X6_in : GoodIn wsX6_untell wsX6_in := goodIn_r _ [5] (by decide +kernel) (by decide +kernel)
set_option maxRecDepth 20000 in
theorem gX6_untell_X6_in : GoodIn wsX6_untell (va_wsS RX6 51 yX6_in wsX6_in) := goodIn_app (goodIn_of _ (by decide +kernel)) ggX6_untell_X6_in
set_option maxRecDepth 20000 in
theorem ggX6_untell_X6_error : GoodIn wsX6_untell wsX6_error := goodIn_r _ [9, 10, 11, 16, 17, 18, 19, 20, 21, 22, 23, 24, 25, 26, 27, 28, 29, 30, 31, 32, 33, 34, 35] (by decide +kernel) (by decide +kernel)
set_option maxRecDepth 20000 in
theorem gX6_untell_X6_error : GoodIn wsX6_untell (wsV RX6 55 RX6 yX6_error wsX6_error) := goodIn_app (goodIn_of _ (by decide +kernel)) ggX6_untell_X6_error
set_option maxRecDepth 20000 in
theorem ggX6_untell_X6_hasText : GoodIn wsX6_untell wsX6_hasText := goodIn_r _ [15, 1, 16, 17, 18, 19, 20, 21, 22, 23, 24, 25, 26, 27, 28, 29, 30, 31, 32, 33, 34, 35] (by decide +kernel) (by decide +kernel)
set_option maxRecDepth 20000 in
theorem gX6_untell_X6_hasText : GoodIn wsX6_untell (wsV RX6 108 RX6 yX6_hasText wsX6_hasText) := goodIn_app (goodIn_of _ (by decide +kernel)) ggX6_untell_X6_hasText
theorem dX6_untell_0 : decode cX6_untell 0 = .ok (.iload_n 1, 1) := by decide +kernel
theorem dX6_untell_1 : decode cX6_untell 1 = .ok (.iconst 0, 1) := by decide +kernel
theorem dX6_untell_2 : decode cX6_untell 2 = .ok (.iconst 1, 1) := by decide +kernel
theorem dX6_untell_3 : decode cX6_untell 3 = .ok (.invokestatic 51, 3) := by decide +kernel
theorem dX6_untell_6 : decode cX6_untell 6 = .ok (.ifCond .ne 9, 3) := by decide +kernel
theorem dX6_untell_9 : decode cX6_untell 9 = .ok (.aload_n 0, 1) := by decide +kernel
theorem dX6_untell_10 : decode cX6_untell 10 = .ok (.iconst 1, 1) := by decide +kernel
theorem dX6_untell_11 : decode cX6_untell 11 = .ok (.invokevirtual 55, 3) := by decide +kernel
theorem dX6_untell_14 : decode cX6_untell 14 = .ok (.ireturn, 1) := by decide +kernel
theorem dX6_untell_15 : decode cX6_untell 15 = .ok (.aload_n 0, 1) := by decide +kernel
theorem dX6_untell_16 : decode cX6_untell 16 = .ok (.iload_n 1, 1) := by decide +kernel
theorem dX6_untell_17 : decode cX6_untell 17 = .ok (.invokevirtual 108, 3) := by decide +kernel
theorem dX6_untell_20 : decode cX6_untell 20 = .ok (.ifCond .eq 7, 3) := by decide +kernel
theorem dX6_untell_23 : decode cX6_untell 23 = .ok (.iconst 1, 1) := by decide +kernel
theorem dX6_untell_24 : decode cX6_untell 24 = .ok (.goto 4, 3) := by decide +kernel
theorem dX6_untell_27 : decode cX6_untell 27 = .ok (.iconst 0, 1) := by decide +kernel
theorem dX6_untell_28 : decode cX6_untell 28 = .ok (.istore_n 2, 1) := by decide +kernel
theorem dX6_untell_29 : decode cX6_untell 29 = .ok (.aload_n 0, 1) := by decide +kernel
theorem dX6_untell_30 : decode cX6_untell 30 = .ok (.getfield 7, 3) := by decide +kernel
theorem dX6_untell_33 : decode cX6_untell 33 = .ok (.bipush 46, 2) := by decide +kernel
theorem dX6_untell_35 : decode cX6_untell 35 = .ok (.bipush 125, 2) := by decide +kernel
theorem dX6_untell_37 : decode cX6_untell 37 = .ok (.iload_n 1, 1) := by decide +kernel
theorem dX6_untell_38 : decode cX6_untell 38 = .ok (.imul, 1) := by decide +kernel
theorem dX6_untell_39 : decode cX6_untell 39 = .ok (.iadd, 1) := by decide +kernel
theorem dX6_untell_40 : decode cX6_untell 40 = .ok (.iconst 0, 1) := by decide +kernel
theorem dX6_untell_41 : decode cX6_untell 41 = .ok (.iastore, 1) := by decide +kernel
theorem dX6_untell_42 : decode cX6_untell 42 = .ok (.iload_n 2, 1) := by decide +kernel
theorem dX6_untell_43 : decode cX6_untell 43 = .ok (.ireturn, 1) := by decide +kernel
theorem dX6_joined_0 : decode cX6_joined 0 = .ok (.iload_n 0, 1) := by decide +kernel
theorem dX6_joined_1 : decode cX6_joined 1 = .ok (.tableswitch 217 37 62 #[153, 203, 217, 217, 217, 127, 119, 217, 123, 217, 131, 217, 217, 217, 217, 217, 217, 217, 217, 217, 217, 217, 217, 170, 192, 181], 119) := by decide +kernel
theorem dX6_joined_120 : decode cX6_joined 120 = .ok (.iload_n 1, 1) := by decide +kernel
theorem dX6_joined_121 : decode cX6_joined 121 = .ok (.iload_n 2, 1) := by decide +kernel
theorem dX6_joined_122 : decode cX6_joined 122 = .ok (.iadd, 1) := by decide +kernel
theorem dX6_joined_123 : decode cX6_joined 123 = .ok (.ireturn, 1) := by decide +kernel
theorem dX6_joined_124 : decode cX6_joined 124 = .ok (.iload_n 1, 1) := by decide +kernel
theorem dX6_joined_125 : decode cX6_joined 125 = .ok (.iload_n 2, 1) := by decide +kernel
theorem dX6_joined_126 : decode cX6_joined 126 = .ok (.isub, 1) := by decide +kernel
theorem dX6_joined_127 : decode cX6_joined 127 = .ok (.ireturn, 1) := by decide +kernel
theorem dX6_joined_128 : decode cX6_joined 128 = .ok (.iload_n 1, 1) := by decide +kernel
theorem dX6_joined_129 : decode cX6_joined 129 = .ok (.iload_n 2, 1) := by decide +kernel
theorem dX6_joined_130 : decode cX6_joined 130 = .ok (.imul, 1) := by decide +kernel
theorem dX6_joined_131 : decode cX6_joined 131 = .ok (.ireturn, 1) := by decide +kernel
theorem dX6_joined_132 : decode cX6_joined 132 = .ok (.iload_n 2, 1) := by decide +kernel
theorem dX6_joined_133 : decode cX6_joined 133 = .ok (.ifCond .ne 7, 3) := by decide +kernel
theorem dX6_joined_136 : decode cX6_joined 136 = .ok (.iconst 0, 1) := by decide +kernel
theorem dX6_joined_137 : decode cX6_joined 137 = .ok (.goto 16, 3) := by decide +kernel
theorem dX6_joined_140 : decode cX6_joined 140 = .ok (.iload_n 2, 1) := by decide +kernel
theorem dX6_joined_141 : decode cX6_joined 141 = .ok (.iconst (-1), 1) := by decide +kernel
theorem dX6_joined_142 : decode cX6_joined 142 = .ok (.if_icmp .ne 8, 3) := by decide +kernel
theorem dX6_joined_145 : decode cX6_joined 145 = .ok (.iload_n 1, 1) := by decide +kernel
theorem dX6_joined_146 : decode cX6_joined 146 = .ok (.ineg, 1) := by decide +kernel
theorem dX6_joined_147 : decode cX6_joined 147 = .ok (.goto 6, 3) := by decide +kernel
theorem dX6_joined_150 : decode cX6_joined 150 = .ok (.iload_n 1, 1) := by decide +kernel
theorem dX6_joined_151 : decode cX6_joined 151 = .ok (.iload_n 2, 1) := by decide +kernel
theorem dX6_joined_152 : decode cX6_joined 152 = .ok (.idiv, 1) := by decide +kernel
theorem dX6_joined_153 : decode cX6_joined 153 = .ok (.ireturn, 1) := by decide +kernel
theorem dX6_joined_154 : decode cX6_joined 154 = .ok (.iload_n 2, 1) := by decide +kernel
theorem dX6_joined_155 : decode cX6_joined 155 = .ok (.ifCond .eq 8, 3) := by decide +kernel
theorem dX6_joined_158 : decode cX6_joined 158 = .ok (.iload_n 2, 1) := by decide +kernel
theorem dX6_joined_159 : decode cX6_joined 159 = .ok (.iconst (-1), 1) := by decide +kernel
theorem dX6_joined_160 : decode cX6_joined 160 = .ok (.if_icmp .ne 7, 3) := by decide +kernel
theorem dX6_joined_163 : decode cX6_joined 163 = .ok (.iconst 0, 1) := by decide +kernel
theorem dX6_joined_164 : decode cX6_joined 164 = .ok (.goto 6, 3) := by decide +kernel
theorem dX6_joined_167 : decode cX6_joined 167 = .ok (.iload_n 1, 1) := by decide +kernel
theorem dX6_joined_168 : decode cX6_joined 168 = .ok (.iload_n 2, 1) := by decide +kernel
theorem dX6_joined_169 : decode cX6_joined 169 = .ok (.irem, 1) := by decide +kernel
theorem dX6_joined_170 : decode cX6_joined 170 = .ok (.ireturn, 1) := by decide +kernel
theorem dX6_joined_171 : decode cX6_joined 171 = .ok (.iload_n 1, 1) := by decide +kernel
theorem dX6_joined_172 : decode cX6_joined 172 = .ok (.iload_n 2, 1) := by decide +kernel
theorem dX6_joined_173 : decode cX6_joined 173 = .ok (.if_icmp .ge 7, 3) := by decide +kernel
theorem dX6_joined_176 : decode cX6_joined 176 = .ok (.iconst 1, 1) := by decide +kernel
theorem dX6_joined_177 : decode cX6_joined 177 = .ok (.goto 4, 3) := by decide +kernel
theorem dX6_joined_180 : decode cX6_joined 180 = .ok (.iconst 0, 1) := by decide +kernel
theorem dX6_joined_181 : decode cX6_joined 181 = .ok (.ireturn, 1) := by decide +kernel
theorem dX6_joined_182 : decode cX6_joined 182 = .ok (.iload_n 1, 1) := by decide +kernel
theorem dX6_joined_183 : decode cX6_joined 183 = .ok (.iload_n 2, 1) := by decide +kernel
theorem dX6_joined_184 : decode cX6_joined 184 = .ok (.if_icmp .le 7, 3) := by decide +kernel
theorem dX6_joined_187 : decode cX6_joined 187 = .ok (.iconst 1, 1) := by decide +kernel
theorem dX6_joined_188 : decode cX6_joined 188 = .ok (.goto 4, 3) := by decide +kernel
theorem dX6_joined_191 : decode cX6_joined 191 = .ok (.iconst 0, 1) := by decide +kernel
theorem dX6_joined_192 : decode cX6_joined 192 = .ok (.ireturn, 1) := by decide +kernel
theorem dX6_joined_193 : decode cX6_joined 193 = .ok (.iload_n 1, 1) := by decide +kernel
theorem dX6_joined_194 : decode cX6_joined 194 = .ok (.iload_n 2, 1) := by decide +kernel
theorem dX6_joined_195 : decode cX6_joined 195 = .ok (.if_icmp .ne 7, 3) := by decide +kernel
theorem dX6_joined_198 : decode cX6_joined 198 = .ok (.iconst 1, 1) := by decide +kernel
theorem dX6_joined_199 : decode cX6_joined 199 = .ok (.goto 4, 3) := by decide +kernel
theorem dX6_joined_202 : decode cX6_joined 202 = .ok (.iconst 0, 1) := by decide +kernel
theorem dX6_joined_203 : decode cX6_joined 203 = .ok (.ireturn, 1) := by decide +kernel
theorem dX6_joined_204 : decode cX6_joined 204 = .ok (.iload_n 1, 1) := by decide +kernel
theorem dX6_joined_205 : decode cX6_joined 205 = .ok (.ifCond .eq 11, 3) := by decide +kernel
theorem dX6_joined_208 : decode cX6_joined 208 = .ok (.iload_n 2, 1) := by decide +kernel
theorem dX6_joined_209 : decode cX6_joined 209 = .ok (.ifCond .eq 7, 3) := by decide +kernel
theorem dX6_joined_212 : decode cX6_joined 212 = .ok (.iconst 1, 1) := by decide +kernel
theorem dX6_joined_213 : decode cX6_joined 213 = .ok (.goto 4, 3) := by decide +kernel
theorem dX6_joined_216 : decode cX6_joined 216 = .ok (.iconst 0, 1) := by decide +kernel
theorem dX6_joined_217 : decode cX6_joined 217 = .ok (.ireturn, 1) := by decide +kernel
theorem dX6_joined_218 : decode cX6_joined 218 = .ok (.iload_n 1, 1) := by decide +kernel
theorem dX6_joined_219 : decode cX6_joined 219 = .ok (.ifCond .ne 7, 3) := by decide +kernel
theorem dX6_joined_222 : decode cX6_joined 222 = .ok (.iload_n 2, 1) := by decide +kernel
theorem dX6_joined_223 : decode cX6_joined 223 = .ok (.ifCond .eq 7, 3) := by decide +kernel
theorem dX6_joined_226 : decode cX6_joined 226 = .ok (.iconst 1, 1) := by decide +kernel
theorem dX6_joined_227 : decode cX6_joined 227 = .ok (.goto 4, 3) := by decide +kernel
theorem dX6_joined_230 : decode cX6_joined 230 = .ok (.iconst 0, 1) := by decide +kernel
theorem dX6_joined_231 : decode cX6_joined 231 = .ok (.ireturn, 1) := by decide +kernel
set_option maxRecDepth 20000 in
theorem ggX6_worked_X6_joined : GoodIn wsX6_worked wsX6_joined := goodIn_r _ [7] (by decide +kernel) (by decide +kernel)
set_option maxRecDepth 20000 in
theorem gX6_worked_X6_joined : GoodIn wsX6_worked (va_wsS RX6 111 yX6_joined wsX6_joined) := goodIn_app (goodIn_of _ (by decide +kernel)) ggX6_worked_X6_joined
theorem dX6_worked_0 : decode cX6_worked 0 = .ok (.bipush 46, 2) := by decide +kernel
theorem dX6_worked_2 : decode cX6_worked 2 = .ok (.bipush 125, 2) := by decide +kernel
theorem dX6_worked_4 : decode cX6_worked 4 = .ok (.iload_n 1, 1) := by decide +kernel
theorem dX6_worked_5 : decode cX6_worked 5 = .ok (.imul, 1) := by decide +kernel
theorem dX6_worked_6 : decode cX6_worked 6 = .ok (.iadd, 1) := by decide +kernel
theorem dX6_worked_7 : decode cX6_worked 7 = .ok (.istore_n 2, 1) := by decide +kernel
theorem dX6_worked_8 : decode cX6_worked 8 = .ok (.iconst 0, 1) := by decide +kernel
theorem dX6_worked_9 : decode cX6_worked 9 = .ok (.istore_n 3, 1) := by decide +kernel
theorem dX6_worked_10 : decode cX6_worked 10 = .ok (.iconst 0, 1) := by decide +kernel
theorem dX6_worked_11 : decode cX6_worked 11 = .ok (.istore 4, 2) := by decide +kernel
theorem dX6_worked_13 : decode cX6_worked 13 = .ok (.iload 4, 2) := by decide +kernel
theorem dX6_worked_15 : decode cX6_worked 15 = .ok (.aload_n 0, 1) := by decide +kernel
theorem dX6_worked_16 : decode cX6_worked 16 = .ok (.getfield 7, 3) := by decide +kernel
theorem dX6_worked_19 : decode cX6_worked 19 = .ok (.iload_n 2, 1) := by decide +kernel
theorem dX6_worked_20 : decode cX6_worked 20 = .ok (.iaload, 1) := by decide +kernel
theorem dX6_worked_21 : decode cX6_worked 21 = .ok (.if_icmp .ge 142, 3) := by decide +kernel
theorem dX6_worked_24 : decode cX6_worked 24 = .ok (.aload_n 0, 1) := by decide +kernel
theorem dX6_worked_25 : decode cX6_worked 25 = .ok (.getfield 7, 3) := by decide +kernel
theorem dX6_worked_28 : decode cX6_worked 28 = .ok (.iload_n 2, 1) := by decide +kernel
theorem dX6_worked_29 : decode cX6_worked 29 = .ok (.iconst 1, 1) := by decide +kernel
theorem dX6_worked_30 : decode cX6_worked 30 = .ok (.iadd, 1) := by decide +kernel
theorem dX6_worked_31 : decode cX6_worked 31 = .ok (.iconst 2, 1) := by decide +kernel
theorem dX6_worked_32 : decode cX6_worked 32 = .ok (.iload 4, 2) := by decide +kernel
theorem dX6_worked_34 : decode cX6_worked 34 = .ok (.imul, 1) := by decide +kernel
theorem dX6_worked_35 : decode cX6_worked 35 = .ok (.iadd, 1) := by decide +kernel
theorem dX6_worked_36 : decode cX6_worked 36 = .ok (.iaload, 1) := by decide +kernel
theorem dX6_worked_37 : decode cX6_worked 37 = .ok (.istore 5, 2) := by decide +kernel
theorem dX6_worked_39 : decode cX6_worked 39 = .ok (.aload_n 0, 1) := by decide +kernel
theorem dX6_worked_40 : decode cX6_worked 40 = .ok (.getfield 7, 3) := by decide +kernel
theorem dX6_worked_43 : decode cX6_worked 43 = .ok (.iload_n 2, 1) := by decide +kernel
theorem dX6_worked_44 : decode cX6_worked 44 = .ok (.iconst 2, 1) := by decide +kernel
theorem dX6_worked_45 : decode cX6_worked 45 = .ok (.iadd, 1) := by decide +kernel
theorem dX6_worked_46 : decode cX6_worked 46 = .ok (.iconst 2, 1) := by decide +kernel
theorem dX6_worked_47 : decode cX6_worked 47 = .ok (.iload 4, 2) := by decide +kernel
theorem dX6_worked_49 : decode cX6_worked 49 = .ok (.imul, 1) := by decide +kernel
theorem dX6_worked_50 : decode cX6_worked 50 = .ok (.iadd, 1) := by decide +kernel
theorem dX6_worked_51 : decode cX6_worked 51 = .ok (.iaload, 1) := by decide +kernel
theorem dX6_worked_52 : decode cX6_worked 52 = .ok (.istore 6, 2) := by decide +kernel
theorem dX6_worked_54 : decode cX6_worked 54 = .ok (.iload 5, 2) := by decide +kernel
theorem dX6_worked_56 : decode cX6_worked 56 = .ok (.ifCond .eq 9, 3) := by decide +kernel
theorem dX6_worked_59 : decode cX6_worked 59 = .ok (.iload 5, 2) := by decide +kernel
theorem dX6_worked_61 : decode cX6_worked 61 = .ok (.iconst 1, 1) := by decide +kernel
theorem dX6_worked_62 : decode cX6_worked 62 = .ok (.if_icmp .ne 32, 3) := by decide +kernel
theorem dX6_worked_65 : decode cX6_worked 65 = .ok (.aload_n 0, 1) := by decide +kernel
theorem dX6_worked_66 : decode cX6_worked 66 = .ok (.getfield 28, 3) := by decide +kernel
theorem dX6_worked_69 : decode cX6_worked 69 = .ok (.iload_n 3, 1) := by decide +kernel
theorem dX6_worked_70 : decode cX6_worked 70 = .ok (.iload 5, 2) := by decide +kernel
theorem dX6_worked_72 : decode cX6_worked 72 = .ok (.ifCond .ne 8, 3) := by decide +kernel
theorem dX6_worked_75 : decode cX6_worked 75 = .ok (.iload 6, 2) := by decide +kernel
theorem dX6_worked_77 : decode cX6_worked 77 = .ok (.goto 10, 3) := by decide +kernel
theorem dX6_worked_80 : decode cX6_worked 80 = .ok (.aload_n 0, 1) := by decide +kernel
theorem dX6_worked_81 : decode cX6_worked 81 = .ok (.getfield 25, 3) := by decide +kernel
theorem dX6_worked_84 : decode cX6_worked 84 = .ok (.iload 6, 2) := by decide +kernel
theorem dX6_worked_86 : decode cX6_worked 86 = .ok (.iaload, 1) := by decide +kernel
theorem dX6_worked_87 : decode cX6_worked 87 = .ok (.iastore, 1) := by decide +kernel
theorem dX6_worked_88 : decode cX6_worked 88 = .ok (.iinc 3 1, 3) := by decide +kernel
theorem dX6_worked_91 : decode cX6_worked 91 = .ok (.goto 66, 3) := by decide +kernel
theorem dX6_worked_94 : decode cX6_worked 94 = .ok (.iload 5, 2) := by decide +kernel
theorem dX6_worked_96 : decode cX6_worked 96 = .ok (.iconst 2, 1) := by decide +kernel
theorem dX6_worked_97 : decode cX6_worked 97 = .ok (.if_icmp .ne 30, 3) := by decide +kernel
theorem dX6_worked_100 : decode cX6_worked 100 = .ok (.aload_n 0, 1) := by decide +kernel
theorem dX6_worked_101 : decode cX6_worked 101 = .ok (.getfield 28, 3) := by decide +kernel
theorem dX6_worked_104 : decode cX6_worked 104 = .ok (.iload_n 3, 1) := by decide +kernel
theorem dX6_worked_105 : decode cX6_worked 105 = .ok (.iconst 1, 1) := by decide +kernel
theorem dX6_worked_106 : decode cX6_worked 106 = .ok (.isub, 1) := by decide +kernel
theorem dX6_worked_107 : decode cX6_worked 107 = .ok (.aload_n 0, 1) := by decide +kernel
theorem dX6_worked_108 : decode cX6_worked 108 = .ok (.getfield 28, 3) := by decide +kernel
theorem dX6_worked_111 : decode cX6_worked 111 = .ok (.iload_n 3, 1) := by decide +kernel
theorem dX6_worked_112 : decode cX6_worked 112 = .ok (.iconst 1, 1) := by decide +kernel
theorem dX6_worked_113 : decode cX6_worked 113 = .ok (.isub, 1) := by decide +kernel
theorem dX6_worked_114 : decode cX6_worked 114 = .ok (.iaload, 1) := by decide +kernel
theorem dX6_worked_115 : decode cX6_worked 115 = .ok (.ifCond .ne 7, 3) := by decide +kernel
theorem dX6_worked_118 : decode cX6_worked 118 = .ok (.iconst 1, 1) := by decide +kernel
theorem dX6_worked_119 : decode cX6_worked 119 = .ok (.goto 4, 3) := by decide +kernel
theorem dX6_worked_122 : decode cX6_worked 122 = .ok (.iconst 0, 1) := by decide +kernel
theorem dX6_worked_123 : decode cX6_worked 123 = .ok (.iastore, 1) := by decide +kernel
theorem dX6_worked_124 : decode cX6_worked 124 = .ok (.goto 33, 3) := by decide +kernel
theorem dX6_worked_127 : decode cX6_worked 127 = .ok (.iinc 3 (-1), 3) := by decide +kernel
theorem dX6_worked_130 : decode cX6_worked 130 = .ok (.aload_n 0, 1) := by decide +kernel
theorem dX6_worked_131 : decode cX6_worked 131 = .ok (.getfield 28, 3) := by decide +kernel
theorem dX6_worked_134 : decode cX6_worked 134 = .ok (.iload_n 3, 1) := by decide +kernel
theorem dX6_worked_135 : decode cX6_worked 135 = .ok (.iconst 1, 1) := by decide +kernel
theorem dX6_worked_136 : decode cX6_worked 136 = .ok (.isub, 1) := by decide +kernel
theorem dX6_worked_137 : decode cX6_worked 137 = .ok (.iload 6, 2) := by decide +kernel
theorem dX6_worked_139 : decode cX6_worked 139 = .ok (.aload_n 0, 1) := by decide +kernel
theorem dX6_worked_140 : decode cX6_worked 140 = .ok (.getfield 28, 3) := by decide +kernel
theorem dX6_worked_143 : decode cX6_worked 143 = .ok (.iload_n 3, 1) := by decide +kernel
theorem dX6_worked_144 : decode cX6_worked 144 = .ok (.iconst 1, 1) := by decide +kernel
theorem dX6_worked_145 : decode cX6_worked 145 = .ok (.isub, 1) := by decide +kernel
theorem dX6_worked_146 : decode cX6_worked 146 = .ok (.iaload, 1) := by decide +kernel
theorem dX6_worked_147 : decode cX6_worked 147 = .ok (.aload_n 0, 1) := by decide +kernel
theorem dX6_worked_148 : decode cX6_worked 148 = .ok (.getfield 28, 3) := by decide +kernel
theorem dX6_worked_151 : decode cX6_worked 151 = .ok (.iload_n 3, 1) := by decide +kernel
theorem dX6_worked_152 : decode cX6_worked 152 = .ok (.iaload, 1) := by decide +kernel
theorem dX6_worked_153 : decode cX6_worked 153 = .ok (.invokestatic 111, 3) := by decide +kernel
theorem dX6_worked_156 : decode cX6_worked 156 = .ok (.iastore, 1) := by decide +kernel
theorem dX6_worked_157 : decode cX6_worked 157 = .ok (.iinc 4 1, 3) := by decide +kernel
theorem dX6_worked_160 : decode cX6_worked 160 = .ok (.goto (-147), 3) := by decide +kernel
theorem dX6_worked_163 : decode cX6_worked 163 = .ok (.aload_n 0, 1) := by decide +kernel
theorem dX6_worked_164 : decode cX6_worked 164 = .ok (.getfield 28, 3) := by decide +kernel
theorem dX6_worked_167 : decode cX6_worked 167 = .ok (.iconst 0, 1) := by decide +kernel
theorem dX6_worked_168 : decode cX6_worked 168 = .ok (.iaload, 1) := by decide +kernel
theorem dX6_worked_169 : decode cX6_worked 169 = .ok (.ireturn, 1) := by decide +kernel
set_option maxRecDepth 20000 in
theorem ggX6_goesBy_X6_its : GoodIn wsX6_goesBy wsX6_its := goodIn_r _ [6, 1, 7, 8, 9, 10, 11, 12, 13, 14, 15, 16, 17, 18, 19, 20, 21, 22, 23, 24, 25, 26] (by decide +kernel) (by decide +kernel)
set_option maxRecDepth 20000 in
theorem gX6_goesBy_X6_its : GoodIn wsX6_goesBy (wsV RX6 115 RX6 yX6_its wsX6_its) := goodIn_app (goodIn_of _ (by decide +kernel)) ggX6_goesBy_X6_its
theorem dX6_goesBy_0 : decode cX6_goesBy 0 = .ok (.aload_n 0, 1) := by decide +kernel
theorem dX6_goesBy_1 : decode cX6_goesBy 1 = .ok (.iload_n 1, 1) := by decide +kernel
theorem dX6_goesBy_2 : decode cX6_goesBy 2 = .ok (.iconst 1, 1) := by decide +kernel
theorem dX6_goesBy_3 : decode cX6_goesBy 3 = .ok (.invokevirtual 115, 3) := by decide +kernel
theorem dX6_goesBy_6 : decode cX6_goesBy 6 = .ok (.istore_n 2, 1) := by decide +kernel
theorem dX6_goesBy_7 : decode cX6_goesBy 7 = .ok (.aload_n 0, 1) := by decide +kernel
theorem dX6_goesBy_8 : decode cX6_goesBy 8 = .ok (.iload_n 1, 1) := by decide +kernel
theorem dX6_goesBy_9 : decode cX6_goesBy 9 = .ok (.iconst 0, 1) := by decide +kernel
theorem dX6_goesBy_10 : decode cX6_goesBy 10 = .ok (.invokevirtual 115, 3) := by decide +kernel
theorem dX6_goesBy_13 : decode cX6_goesBy 13 = .ok (.tableswitch 92 1 6 #[39, 45, 47, 39, 66, 73], 39) := by decide +kernel
theorem dX6_goesBy_52 : decode cX6_goesBy 52 = .ok (.iconst 1, 1) := by decide +kernel
theorem dX6_goesBy_53 : decode cX6_goesBy 53 = .ok (.iload_n 2, 1) := by decide +kernel
theorem dX6_goesBy_54 : decode cX6_goesBy 54 = .ok (.iconst 3, 1) := by decide +kernel
theorem dX6_goesBy_55 : decode cX6_goesBy 55 = .ok (.irem, 1) := by decide +kernel
theorem dX6_goesBy_56 : decode cX6_goesBy 56 = .ok (.iadd, 1) := by decide +kernel
theorem dX6_goesBy_57 : decode cX6_goesBy 57 = .ok (.ireturn, 1) := by decide +kernel
theorem dX6_goesBy_58 : decode cX6_goesBy 58 = .ok (.iconst (-1), 1) := by decide +kernel
theorem dX6_goesBy_59 : decode cX6_goesBy 59 = .ok (.ireturn, 1) := by decide +kernel
theorem dX6_goesBy_60 : decode cX6_goesBy 60 = .ok (.aload_n 0, 1) := by decide +kernel
theorem dX6_goesBy_61 : decode cX6_goesBy 61 = .ok (.getfield 7, 3) := by decide +kernel
theorem dX6_goesBy_64 : decode cX6_goesBy 64 = .ok (.iconst 0, 1) := by decide +kernel
theorem dX6_goesBy_65 : decode cX6_goesBy 65 = .ok (.iaload, 1) := by decide +kernel
theorem dX6_goesBy_66 : decode cX6_goesBy 66 = .ok (.iload_n 2, 1) := by decide +kernel
theorem dX6_goesBy_67 : decode cX6_goesBy 67 = .ok (.iconst 1, 1) := by decide +kernel
theorem dX6_goesBy_68 : decode cX6_goesBy 68 = .ok (.iadd, 1) := by decide +kernel
theorem dX6_goesBy_69 : decode cX6_goesBy 69 = .ok (.irem, 1) := by decide +kernel
theorem dX6_goesBy_70 : decode cX6_goesBy 70 = .ok (.ifCond .ne 7, 3) := by decide +kernel
theorem dX6_goesBy_73 : decode cX6_goesBy 73 = .ok (.iconst (-1), 1) := by decide +kernel
theorem dX6_goesBy_74 : decode cX6_goesBy 74 = .ok (.goto 4, 3) := by decide +kernel
theorem dX6_goesBy_77 : decode cX6_goesBy 77 = .ok (.iconst 1, 1) := by decide +kernel
theorem dX6_goesBy_78 : decode cX6_goesBy 78 = .ok (.ireturn, 1) := by decide +kernel
theorem dX6_goesBy_79 : decode cX6_goesBy 79 = .ok (.bipush (-2), 2) := by decide +kernel
theorem dX6_goesBy_81 : decode cX6_goesBy 81 = .ok (.iload_n 2, 1) := by decide +kernel
theorem dX6_goesBy_82 : decode cX6_goesBy 82 = .ok (.iconst 3, 1) := by decide +kernel
theorem dX6_goesBy_83 : decode cX6_goesBy 83 = .ok (.irem, 1) := by decide +kernel
theorem dX6_goesBy_84 : decode cX6_goesBy 84 = .ok (.isub, 1) := by decide +kernel
theorem dX6_goesBy_85 : decode cX6_goesBy 85 = .ok (.ireturn, 1) := by decide +kernel
theorem dX6_goesBy_86 : decode cX6_goesBy 86 = .ok (.aload_n 0, 1) := by decide +kernel
theorem dX6_goesBy_87 : decode cX6_goesBy 87 = .ok (.getfield 7, 3) := by decide +kernel
theorem dX6_goesBy_90 : decode cX6_goesBy 90 = .ok (.iconst 0, 1) := by decide +kernel
theorem dX6_goesBy_91 : decode cX6_goesBy 91 = .ok (.iaload, 1) := by decide +kernel
theorem dX6_goesBy_92 : decode cX6_goesBy 92 = .ok (.iconst 4, 1) := by decide +kernel
theorem dX6_goesBy_93 : decode cX6_goesBy 93 = .ok (.irem, 1) := by decide +kernel
theorem dX6_goesBy_94 : decode cX6_goesBy 94 = .ok (.ifCond .ne 9, 3) := by decide +kernel
theorem dX6_goesBy_97 : decode cX6_goesBy 97 = .ok (.iload_n 2, 1) := by decide +kernel
theorem dX6_goesBy_98 : decode cX6_goesBy 98 = .ok (.iconst 1, 1) := by decide +kernel
theorem dX6_goesBy_99 : decode cX6_goesBy 99 = .ok (.iadd, 1) := by decide +kernel
theorem dX6_goesBy_100 : decode cX6_goesBy 100 = .ok (.goto 4, 3) := by decide +kernel
theorem dX6_goesBy_103 : decode cX6_goesBy 103 = .ok (.iconst 0, 1) := by decide +kernel
theorem dX6_goesBy_104 : decode cX6_goesBy 104 = .ok (.ireturn, 1) := by decide +kernel
theorem dX6_goesBy_105 : decode cX6_goesBy 105 = .ok (.iconst 1, 1) := by decide +kernel
theorem dX6_goesBy_106 : decode cX6_goesBy 106 = .ok (.ireturn, 1) := by decide +kernel
set_option maxRecDepth 20000 in
theorem ggX6_countedTold_X6_hasText : GoodIn wsX6_countedTold wsX6_hasText := goodIn_r _ [6, 7, 19, 20, 21, 22, 23, 24, 25, 26, 27, 28, 29, 30, 31, 32, 33, 34, 35, 36, 37, 38] (by decide +kernel) (by decide +kernel)
set_option maxRecDepth 20000 in
theorem gX6_countedTold_X6_hasText : GoodIn wsX6_countedTold (wsV RX6 108 RX6 yX6_hasText wsX6_hasText) := goodIn_app (goodIn_of _ (by decide +kernel)) ggX6_countedTold_X6_hasText
set_option maxRecDepth 20000 in
theorem ggX6_countedTold_X6_worked : GoodIn wsX6_countedTold wsX6_worked := goodIn_r _ [11, 7, 12, 1, 13, 14, 5, 15, 19, 20, 21, 22, 23, 24, 25, 26, 27, 28, 29, 30, 31, 32, 33, 34, 35, 36, 37, 38] (by decide +kernel) (by decide +kernel)
set_option maxRecDepth 20000 in
theorem gX6_countedTold_X6_worked : GoodIn wsX6_countedTold (wsV RX6 119 RX6 yX6_worked wsX6_worked) := goodIn_app (goodIn_of _ (by decide +kernel)) ggX6_countedTold_X6_worked
set_option maxRecDepth 20000 in
theorem ggX6_countedTold_X6_held : GoodIn wsX6_countedTold wsX6_held := goodIn_r _ [18] (by decide +kernel) (by decide +kernel)
set_option maxRecDepth 20000 in
theorem gX6_countedTold_X6_held : GoodIn wsX6_countedTold (va_wsS RX6 122 yX6_held wsX6_held) := goodIn_app (goodIn_of _ (by decide +kernel)) ggX6_countedTold_X6_held
theorem dX6_countedTold_0 : decode cX6_countedTold 0 = .ok (.aload_n 0, 1) := by decide +kernel
theorem dX6_countedTold_1 : decode cX6_countedTold 1 = .ok (.getfield 25, 3) := by decide +kernel
theorem dX6_countedTold_4 : decode cX6_countedTold 4 = .ok (.bipush 114, 2) := by decide +kernel
theorem dX6_countedTold_6 : decode cX6_countedTold 6 = .ok (.iload_n 1, 1) := by decide +kernel
theorem dX6_countedTold_7 : decode cX6_countedTold 7 = .ok (.iastore, 1) := by decide +kernel
theorem dX6_countedTold_8 : decode cX6_countedTold 8 = .ok (.aload_n 0, 1) := by decide +kernel
theorem dX6_countedTold_9 : decode cX6_countedTold 9 = .ok (.getfield 25, 3) := by decide +kernel
theorem dX6_countedTold_12 : decode cX6_countedTold 12 = .ok (.bipush 115, 2) := by decide +kernel
theorem dX6_countedTold_14 : decode cX6_countedTold 14 = .ok (.iload_n 2, 1) := by decide +kernel
theorem dX6_countedTold_15 : decode cX6_countedTold 15 = .ok (.iastore, 1) := by decide +kernel
theorem dX6_countedTold_16 : decode cX6_countedTold 16 = .ok (.aload_n 0, 1) := by decide +kernel
theorem dX6_countedTold_17 : decode cX6_countedTold 17 = .ok (.getfield 25, 3) := by decide +kernel
theorem dX6_countedTold_20 : decode cX6_countedTold 20 = .ok (.bipush 116, 2) := by decide +kernel
theorem dX6_countedTold_22 : decode cX6_countedTold 22 = .ok (.iload_n 3, 1) := by decide +kernel
theorem dX6_countedTold_23 : decode cX6_countedTold 23 = .ok (.iastore, 1) := by decide +kernel
theorem dX6_countedTold_24 : decode cX6_countedTold 24 = .ok (.aload_n 0, 1) := by decide +kernel
theorem dX6_countedTold_25 : decode cX6_countedTold 25 = .ok (.iconst 0, 1) := by decide +kernel
theorem dX6_countedTold_26 : decode cX6_countedTold 26 = .ok (.invokevirtual 108, 3) := by decide +kernel
theorem dX6_countedTold_29 : decode cX6_countedTold 29 = .ok (.ifCond .eq 11, 3) := by decide +kernel
theorem dX6_countedTold_32 : decode cX6_countedTold 32 = .ok (.aload_n 0, 1) := by decide +kernel
theorem dX6_countedTold_33 : decode cX6_countedTold 33 = .ok (.iconst 0, 1) := by decide +kernel
theorem dX6_countedTold_34 : decode cX6_countedTold 34 = .ok (.invokevirtual 119, 3) := by decide +kernel
theorem dX6_countedTold_37 : decode cX6_countedTold 37 = .ok (.goto 4, 3) := by decide +kernel
theorem dX6_countedTold_40 : decode cX6_countedTold 40 = .ok (.iload_n 1, 1) := by decide +kernel
theorem dX6_countedTold_41 : decode cX6_countedTold 41 = .ok (.bipush (-99), 2) := by decide +kernel
theorem dX6_countedTold_43 : decode cX6_countedTold 43 = .ok (.bipush 99, 2) := by decide +kernel
theorem dX6_countedTold_45 : decode cX6_countedTold 45 = .ok (.invokestatic 122, 3) := by decide +kernel
theorem dX6_countedTold_48 : decode cX6_countedTold 48 = .ok (.ireturn, 1) := by decide +kernel
set_option maxRecDepth 20000 in
theorem ggX6_worthTold_X6_hasText : GoodIn wsX6_worthTold wsX6_hasText := goodIn_r _ [6, 7, 19, 20, 21, 22, 23, 24, 25, 26, 27, 28, 29, 30, 31, 32, 33, 34, 35, 36, 37, 38] (by decide +kernel) (by decide +kernel)
set_option maxRecDepth 20000 in
theorem gX6_worthTold_X6_hasText : GoodIn wsX6_worthTold (wsV RX6 108 RX6 yX6_hasText wsX6_hasText) := goodIn_app (goodIn_of _ (by decide +kernel)) ggX6_worthTold_X6_hasText
set_option maxRecDepth 20000 in
theorem ggX6_worthTold_X6_worked : GoodIn wsX6_worthTold wsX6_worked := goodIn_r _ [11, 7, 12, 1, 13, 14, 5, 15, 19, 20, 21, 22, 23, 24, 25, 26, 27, 28, 29, 30, 31, 32, 33, 34, 35, 36, 37, 38] (by decide +kernel) (by decide +kernel)
set_option maxRecDepth 20000 in
theorem gX6_worthTold_X6_worked : GoodIn wsX6_worthTold (wsV RX6 119 RX6 yX6_worked wsX6_worked) := goodIn_app (goodIn_of _ (by decide +kernel)) ggX6_worthTold_X6_worked
set_option maxRecDepth 20000 in
theorem ggX6_worthTold_X6_held : GoodIn wsX6_worthTold wsX6_held := goodIn_r _ [18] (by decide +kernel) (by decide +kernel)
set_option maxRecDepth 20000 in
theorem gX6_worthTold_X6_held : GoodIn wsX6_worthTold (va_wsS RX6 122 yX6_held wsX6_held) := goodIn_app (goodIn_of _ (by decide +kernel)) ggX6_worthTold_X6_held
theorem dX6_worthTold_0 : decode cX6_worthTold 0 = .ok (.aload_n 0, 1) := by decide +kernel
theorem dX6_worthTold_1 : decode cX6_worthTold 1 = .ok (.getfield 25, 3) := by decide +kernel
theorem dX6_worthTold_4 : decode cX6_worthTold 4 = .ok (.bipush 115, 2) := by decide +kernel
theorem dX6_worthTold_6 : decode cX6_worthTold 6 = .ok (.iload_n 1, 1) := by decide +kernel
theorem dX6_worthTold_7 : decode cX6_worthTold 7 = .ok (.iastore, 1) := by decide +kernel
theorem dX6_worthTold_8 : decode cX6_worthTold 8 = .ok (.aload_n 0, 1) := by decide +kernel
theorem dX6_worthTold_9 : decode cX6_worthTold 9 = .ok (.getfield 25, 3) := by decide +kernel
theorem dX6_worthTold_12 : decode cX6_worthTold 12 = .ok (.bipush 104, 2) := by decide +kernel
theorem dX6_worthTold_14 : decode cX6_worthTold 14 = .ok (.iload_n 2, 1) := by decide +kernel
theorem dX6_worthTold_15 : decode cX6_worthTold 15 = .ok (.iastore, 1) := by decide +kernel
theorem dX6_worthTold_16 : decode cX6_worthTold 16 = .ok (.aload_n 0, 1) := by decide +kernel
theorem dX6_worthTold_17 : decode cX6_worthTold 17 = .ok (.getfield 25, 3) := by decide +kernel
theorem dX6_worthTold_20 : decode cX6_worthTold 20 = .ok (.bipush 99, 2) := by decide +kernel
theorem dX6_worthTold_22 : decode cX6_worthTold 22 = .ok (.iload_n 3, 1) := by decide +kernel
theorem dX6_worthTold_23 : decode cX6_worthTold 23 = .ok (.iastore, 1) := by decide +kernel
theorem dX6_worthTold_24 : decode cX6_worthTold 24 = .ok (.aload_n 0, 1) := by decide +kernel
theorem dX6_worthTold_25 : decode cX6_worthTold 25 = .ok (.iconst 1, 1) := by decide +kernel
theorem dX6_worthTold_26 : decode cX6_worthTold 26 = .ok (.invokevirtual 108, 3) := by decide +kernel
theorem dX6_worthTold_29 : decode cX6_worthTold 29 = .ok (.ifCond .eq 11, 3) := by decide +kernel
theorem dX6_worthTold_32 : decode cX6_worthTold 32 = .ok (.aload_n 0, 1) := by decide +kernel
theorem dX6_worthTold_33 : decode cX6_worthTold 33 = .ok (.iconst 1, 1) := by decide +kernel
theorem dX6_worthTold_34 : decode cX6_worthTold 34 = .ok (.invokevirtual 119, 3) := by decide +kernel
theorem dX6_worthTold_37 : decode cX6_worthTold 37 = .ok (.goto 4, 3) := by decide +kernel
theorem dX6_worthTold_40 : decode cX6_worthTold 40 = .ok (.iload_n 2, 1) := by decide +kernel
theorem dX6_worthTold_41 : decode cX6_worthTold 41 = .ok (.iconst 0, 1) := by decide +kernel
theorem dX6_worthTold_42 : decode cX6_worthTold 42 = .ok (.sipush 999, 3) := by decide +kernel
theorem dX6_worthTold_45 : decode cX6_worthTold 45 = .ok (.invokestatic 122, 3) := by decide +kernel
theorem dX6_worthTold_48 : decode cX6_worthTold 48 = .ok (.ireturn, 1) := by decide +kernel
set_option maxRecDepth 20000 in
theorem ggX6_tallies_X6_its : GoodIn wsX6_tallies wsX6_its := goodIn_r _ [6, 1, 27, 28, 29, 30, 31, 32, 33, 34, 35, 36, 37, 38, 39, 40, 41, 42, 43, 44, 45, 46] (by decide +kernel) (by decide +kernel)
set_option maxRecDepth 20000 in
theorem gX6_tallies_X6_its : GoodIn wsX6_tallies (wsV RX6 115 RX6 yX6_its wsX6_its) := goodIn_app (goodIn_of _ (by decide +kernel)) ggX6_tallies_X6_its
set_option maxRecDepth 20000 in
theorem ggX6_tallies_X6_countedTold : GoodIn wsX6_tallies wsX6_countedTold := goodIn_r _ [10, 11, 12, 13, 14, 5, 15, 1, 16, 17, 18, 19, 20, 21, 22, 23, 24, 25, 26, 27, 28, 29, 30, 31, 32, 33, 34, 35, 36, 37, 38, 39, 40, 41, 42, 43, 44, 45, 46] (by decide +kernel) (by decide +kernel)
set_option maxRecDepth 20000 in
theorem gX6_tallies_X6_countedTold : GoodIn wsX6_tallies (wsV RX6 125 RX6 yX6_countedTold wsX6_countedTold) := goodIn_app (goodIn_of _ (by decide +kernel)) ggX6_tallies_X6_countedTold
theorem dX6_tallies_0 : decode cX6_tallies 0 = .ok (.iload_n 2, 1) := by decide +kernel
theorem dX6_tallies_1 : decode cX6_tallies 1 = .ok (.aload_n 0, 1) := by decide +kernel
theorem dX6_tallies_2 : decode cX6_tallies 2 = .ok (.getfield 7, 3) := by decide +kernel
theorem dX6_tallies_5 : decode cX6_tallies 5 = .ok (.iconst 2, 1) := by decide +kernel
theorem dX6_tallies_6 : decode cX6_tallies 6 = .ok (.iaload, 1) := by decide +kernel
theorem dX6_tallies_7 : decode cX6_tallies 7 = .ok (.if_icmp .eq 14, 3) := by decide +kernel
theorem dX6_tallies_10 : decode cX6_tallies 10 = .ok (.aload_n 0, 1) := by decide +kernel
theorem dX6_tallies_11 : decode cX6_tallies 11 = .ok (.iload_n 1, 1) := by decide +kernel
theorem dX6_tallies_12 : decode cX6_tallies 12 = .ok (.iconst 0, 1) := by decide +kernel
theorem dX6_tallies_13 : decode cX6_tallies 13 = .ok (.invokevirtual 115, 3) := by decide +kernel
theorem dX6_tallies_16 : decode cX6_tallies 16 = .ok (.bipush 6, 2) := by decide +kernel
theorem dX6_tallies_18 : decode cX6_tallies 18 = .ok (.if_icmp .ne 5, 3) := by decide +kernel
theorem dX6_tallies_21 : decode cX6_tallies 21 = .ok (.iconst 0, 1) := by decide +kernel
theorem dX6_tallies_22 : decode cX6_tallies 22 = .ok (.ireturn, 1) := by decide +kernel
theorem dX6_tallies_23 : decode cX6_tallies 23 = .ok (.aload_n 0, 1) := by decide +kernel
theorem dX6_tallies_24 : decode cX6_tallies 24 = .ok (.aload_n 0, 1) := by decide +kernel
theorem dX6_tallies_25 : decode cX6_tallies 25 = .ok (.getfield 7, 3) := by decide +kernel
theorem dX6_tallies_28 : decode cX6_tallies 28 = .ok (.bipush 32, 2) := by decide +kernel
theorem dX6_tallies_30 : decode cX6_tallies 30 = .ok (.iload_n 2, 1) := by decide +kernel
theorem dX6_tallies_31 : decode cX6_tallies 31 = .ok (.iadd, 1) := by decide +kernel
theorem dX6_tallies_32 : decode cX6_tallies 32 = .ok (.iaload, 1) := by decide +kernel
theorem dX6_tallies_33 : decode cX6_tallies 33 = .ok (.iload_n 2, 1) := by decide +kernel
theorem dX6_tallies_34 : decode cX6_tallies 34 = .ok (.aload_n 0, 1) := by decide +kernel
theorem dX6_tallies_35 : decode cX6_tallies 35 = .ok (.getfield 7, 3) := by decide +kernel
theorem dX6_tallies_38 : decode cX6_tallies 38 = .ok (.iconst 0, 1) := by decide +kernel
theorem dX6_tallies_39 : decode cX6_tallies 39 = .ok (.iaload, 1) := by decide +kernel
theorem dX6_tallies_40 : decode cX6_tallies 40 = .ok (.invokevirtual 125, 3) := by decide +kernel
theorem dX6_tallies_43 : decode cX6_tallies 43 = .ok (.istore_n 3, 1) := by decide +kernel
theorem dX6_tallies_44 : decode cX6_tallies 44 = .ok (.aload_n 0, 1) := by decide +kernel
theorem dX6_tallies_45 : decode cX6_tallies 45 = .ok (.iload_n 1, 1) := by decide +kernel
theorem dX6_tallies_46 : decode cX6_tallies 46 = .ok (.iconst 0, 1) := by decide +kernel
theorem dX6_tallies_47 : decode cX6_tallies 47 = .ok (.invokevirtual 115, 3) := by decide +kernel
theorem dX6_tallies_50 : decode cX6_tallies 50 = .ok (.iconst 4, 1) := by decide +kernel
theorem dX6_tallies_51 : decode cX6_tallies 51 = .ok (.if_icmp .ne 21, 3) := by decide +kernel
theorem dX6_tallies_54 : decode cX6_tallies 54 = .ok (.iload_n 3, 1) := by decide +kernel
theorem dX6_tallies_55 : decode cX6_tallies 55 = .ok (.ifCond .le 7, 3) := by decide +kernel
theorem dX6_tallies_58 : decode cX6_tallies 58 = .ok (.iconst 1, 1) := by decide +kernel
theorem dX6_tallies_59 : decode cX6_tallies 59 = .ok (.goto 12, 3) := by decide +kernel
theorem dX6_tallies_62 : decode cX6_tallies 62 = .ok (.iload_n 3, 1) := by decide +kernel
theorem dX6_tallies_63 : decode cX6_tallies 63 = .ok (.ifCond .ge 7, 3) := by decide +kernel
theorem dX6_tallies_66 : decode cX6_tallies 66 = .ok (.iconst (-1), 1) := by decide +kernel
theorem dX6_tallies_67 : decode cX6_tallies 67 = .ok (.goto 4, 3) := by decide +kernel
theorem dX6_tallies_70 : decode cX6_tallies 70 = .ok (.iconst 0, 1) := by decide +kernel
theorem dX6_tallies_71 : decode cX6_tallies 71 = .ok (.ireturn, 1) := by decide +kernel
theorem dX6_tallies_72 : decode cX6_tallies 72 = .ok (.aload_n 0, 1) := by decide +kernel
theorem dX6_tallies_73 : decode cX6_tallies 73 = .ok (.iload_n 1, 1) := by decide +kernel
theorem dX6_tallies_74 : decode cX6_tallies 74 = .ok (.iconst 0, 1) := by decide +kernel
theorem dX6_tallies_75 : decode cX6_tallies 75 = .ok (.invokevirtual 115, 3) := by decide +kernel
theorem dX6_tallies_78 : decode cX6_tallies 78 = .ok (.iconst 5, 1) := by decide +kernel
theorem dX6_tallies_79 : decode cX6_tallies 79 = .ok (.if_icmp .ne 9, 3) := by decide +kernel
theorem dX6_tallies_82 : decode cX6_tallies 82 = .ok (.iconst 2, 1) := by decide +kernel
theorem dX6_tallies_83 : decode cX6_tallies 83 = .ok (.iload_n 3, 1) := by decide +kernel
theorem dX6_tallies_84 : decode cX6_tallies 84 = .ok (.imul, 1) := by decide +kernel
theorem dX6_tallies_85 : decode cX6_tallies 85 = .ok (.goto 4, 3) := by decide +kernel
theorem dX6_tallies_88 : decode cX6_tallies 88 = .ok (.iload_n 3, 1) := by decide +kernel
theorem dX6_tallies_89 : decode cX6_tallies 89 = .ok (.ireturn, 1) := by decide +kernel
set_option maxRecDepth 20000 in
theorem ggX6_goes_X6_goesBy : GoodIn wsX6_goes wsX6_goesBy := goodIn_r _ [6, 1, 7, 8, 9, 5, 10, 39, 40, 41, 42, 43, 44, 45, 46, 47, 48, 49, 50, 51, 52, 53, 54, 55, 56, 57, 58] (by decide +kernel) (by decide +kernel)
set_option maxRecDepth 20000 in
theorem gX6_goes_X6_goesBy : GoodIn wsX6_goes (wsV RX6 128 RX6 yX6_goesBy wsX6_goesBy) := goodIn_app (goodIn_of _ (by decide +kernel)) ggX6_goes_X6_goesBy
set_option maxRecDepth 20000 in
theorem ggX6_goes_X6_its : GoodIn wsX6_goes wsX6_its := goodIn_r _ [10, 1, 39, 40, 41, 42, 43, 44, 45, 46, 47, 48, 49, 50, 51, 52, 53, 54, 55, 56, 57, 58] (by decide +kernel) (by decide +kernel)
set_option maxRecDepth 20000 in
theorem gX6_goes_X6_its : GoodIn wsX6_goes (wsV RX6 115 RX6 yX6_its wsX6_its) := goodIn_app (goodIn_of _ (by decide +kernel)) ggX6_goes_X6_its
set_option maxRecDepth 20000 in
theorem ggX6_goes_X6_tallies : GoodIn wsX6_goes wsX6_tallies := goodIn_r _ [14, 1, 7, 8, 9, 5, 10, 15, 16, 17, 18, 19, 20, 21, 22, 23, 24, 25, 26, 27, 28, 29, 30, 31, 32, 33, 34, 39, 40, 41, 42, 43, 44, 45, 46, 47, 48, 49, 50, 51, 52, 53, 54, 55, 56, 57, 58] (by decide +kernel) (by decide +kernel)
set_option maxRecDepth 20000 in
theorem gX6_goes_X6_tallies : GoodIn wsX6_goes (wsV RX6 131 RX6 yX6_tallies wsX6_tallies) := goodIn_app (goodIn_of _ (by decide +kernel)) ggX6_goes_X6_tallies
set_option maxRecDepth 20000 in
theorem ggX6_goes_X6_held : GoodIn wsX6_goes wsX6_held := goodIn_r _ [34] (by decide +kernel) (by decide +kernel)
set_option maxRecDepth 20000 in
theorem gX6_goes_X6_held : GoodIn wsX6_goes (va_wsS RX6 122 yX6_held wsX6_held) := goodIn_app (goodIn_of _ (by decide +kernel)) ggX6_goes_X6_held
set_option maxRecDepth 20000 in
theorem ggX6_goes_X6_lays1 : GoodIn wsX6_goes wsX6_lays1 := goodIn_r _ [38, 1, 39, 40, 41, 42, 43, 44, 45, 46, 47, 48, 49, 50, 51, 52, 53, 54, 55, 56, 57, 58] (by decide +kernel) (by decide +kernel)
set_option maxRecDepth 20000 in
theorem gX6_goes_X6_lays1 : GoodIn wsX6_goes (wsV RX6 134 RX6 yX6_lays1 wsX6_lays1) := goodIn_app (goodIn_of _ (by decide +kernel)) ggX6_goes_X6_lays1
theorem dX6_goes_0 : decode cX6_goes 0 = .ok (.aload_n 0, 1) := by decide +kernel
theorem dX6_goes_1 : decode cX6_goes 1 = .ok (.iload_n 1, 1) := by decide +kernel
theorem dX6_goes_2 : decode cX6_goes 2 = .ok (.invokevirtual 128, 3) := by decide +kernel
theorem dX6_goes_5 : decode cX6_goes 5 = .ok (.istore_n 2, 1) := by decide +kernel
theorem dX6_goes_6 : decode cX6_goes 6 = .ok (.aload_n 0, 1) := by decide +kernel
theorem dX6_goes_7 : decode cX6_goes 7 = .ok (.getfield 7, 3) := by decide +kernel
theorem dX6_goes_10 : decode cX6_goes 10 = .ok (.iconst 1, 1) := by decide +kernel
theorem dX6_goes_11 : decode cX6_goes 11 = .ok (.iaload, 1) := by decide +kernel
theorem dX6_goes_12 : decode cX6_goes 12 = .ok (.istore_n 3, 1) := by decide +kernel
theorem dX6_goes_13 : decode cX6_goes 13 = .ok (.iload_n 2, 1) := by decide +kernel
theorem dX6_goes_14 : decode cX6_goes 14 = .ok (.ifCond .eq 105, 3) := by decide +kernel
theorem dX6_goes_17 : decode cX6_goes 17 = .ok (.aload_n 0, 1) := by decide +kernel
theorem dX6_goes_18 : decode cX6_goes 18 = .ok (.iload_n 1, 1) := by decide +kernel
theorem dX6_goes_19 : decode cX6_goes 19 = .ok (.iconst 2, 1) := by decide +kernel
theorem dX6_goes_20 : decode cX6_goes 20 = .ok (.invokevirtual 115, 3) := by decide +kernel
theorem dX6_goes_23 : decode cX6_goes 23 = .ok (.istore 4, 2) := by decide +kernel
theorem dX6_goes_25 : decode cX6_goes 25 = .ok (.iload_n 2, 1) := by decide +kernel
theorem dX6_goes_26 : decode cX6_goes 26 = .ok (.ifCond .le 12, 3) := by decide +kernel
theorem dX6_goes_29 : decode cX6_goes 29 = .ok (.iload 4, 2) := by decide +kernel
theorem dX6_goes_31 : decode cX6_goes 31 = .ok (.iconst 1, 1) := by decide +kernel
theorem dX6_goes_32 : decode cX6_goes 32 = .ok (.iadd, 1) := by decide +kernel
theorem dX6_goes_33 : decode cX6_goes 33 = .ok (.iload_n 3, 1) := by decide +kernel
theorem dX6_goes_34 : decode cX6_goes 34 = .ok (.irem, 1) := by decide +kernel
theorem dX6_goes_35 : decode cX6_goes 35 = .ok (.goto 11, 3) := by decide +kernel
theorem dX6_goes_38 : decode cX6_goes 38 = .ok (.iload 4, 2) := by decide +kernel
theorem dX6_goes_40 : decode cX6_goes 40 = .ok (.iload_n 3, 1) := by decide +kernel
theorem dX6_goes_41 : decode cX6_goes 41 = .ok (.iadd, 1) := by decide +kernel
theorem dX6_goes_42 : decode cX6_goes 42 = .ok (.iconst 1, 1) := by decide +kernel
theorem dX6_goes_43 : decode cX6_goes 43 = .ok (.isub, 1) := by decide +kernel
theorem dX6_goes_44 : decode cX6_goes 44 = .ok (.iload_n 3, 1) := by decide +kernel
theorem dX6_goes_45 : decode cX6_goes 45 = .ok (.irem, 1) := by decide +kernel
theorem dX6_goes_46 : decode cX6_goes 46 = .ok (.istore 5, 2) := by decide +kernel
theorem dX6_goes_48 : decode cX6_goes 48 = .ok (.iload_n 2, 1) := by decide +kernel
theorem dX6_goes_49 : decode cX6_goes 49 = .ok (.ifCond .le 13, 3) := by decide +kernel
theorem dX6_goes_52 : decode cX6_goes 52 = .ok (.aload_n 0, 1) := by decide +kernel
theorem dX6_goes_53 : decode cX6_goes 53 = .ok (.iload_n 1, 1) := by decide +kernel
theorem dX6_goes_54 : decode cX6_goes 54 = .ok (.iload 4, 2) := by decide +kernel
theorem dX6_goes_56 : decode cX6_goes 56 = .ok (.invokevirtual 131, 3) := by decide +kernel
theorem dX6_goes_59 : decode cX6_goes 59 = .ok (.goto 11, 3) := by decide +kernel
theorem dX6_goes_62 : decode cX6_goes 62 = .ok (.aload_n 0, 1) := by decide +kernel
theorem dX6_goes_63 : decode cX6_goes 63 = .ok (.iload_n 1, 1) := by decide +kernel
theorem dX6_goes_64 : decode cX6_goes 64 = .ok (.iload 5, 2) := by decide +kernel
theorem dX6_goes_66 : decode cX6_goes 66 = .ok (.invokevirtual 131, 3) := by decide +kernel
theorem dX6_goes_69 : decode cX6_goes 69 = .ok (.ineg, 1) := by decide +kernel
theorem dX6_goes_70 : decode cX6_goes 70 = .ok (.istore 6, 2) := by decide +kernel
theorem dX6_goes_72 : decode cX6_goes 72 = .ok (.aload_n 0, 1) := by decide +kernel
theorem dX6_goes_73 : decode cX6_goes 73 = .ok (.iload_n 1, 1) := by decide +kernel
theorem dX6_goes_74 : decode cX6_goes 74 = .ok (.iconst 3, 1) := by decide +kernel
theorem dX6_goes_75 : decode cX6_goes 75 = .ok (.aload_n 0, 1) := by decide +kernel
theorem dX6_goes_76 : decode cX6_goes 76 = .ok (.iload_n 1, 1) := by decide +kernel
theorem dX6_goes_77 : decode cX6_goes 77 = .ok (.iconst 3, 1) := by decide +kernel
theorem dX6_goes_78 : decode cX6_goes 78 = .ok (.invokevirtual 115, 3) := by decide +kernel
theorem dX6_goes_81 : decode cX6_goes 81 = .ok (.iload 6, 2) := by decide +kernel
theorem dX6_goes_83 : decode cX6_goes 83 = .ok (.iadd, 1) := by decide +kernel
theorem dX6_goes_84 : decode cX6_goes 84 = .ok (.sipush (-9999), 3) := by decide +kernel
theorem dX6_goes_87 : decode cX6_goes 87 = .ok (.sipush 9999, 3) := by decide +kernel
theorem dX6_goes_90 : decode cX6_goes 90 = .ok (.invokestatic 122, 3) := by decide +kernel
theorem dX6_goes_93 : decode cX6_goes 93 = .ok (.invokevirtual 134, 3) := by decide +kernel
theorem dX6_goes_96 : decode cX6_goes 96 = .ok (.aload_n 0, 1) := by decide +kernel
theorem dX6_goes_97 : decode cX6_goes 97 = .ok (.iload_n 1, 1) := by decide +kernel
theorem dX6_goes_98 : decode cX6_goes 98 = .ok (.iconst 2, 1) := by decide +kernel
theorem dX6_goes_99 : decode cX6_goes 99 = .ok (.iload 5, 2) := by decide +kernel
theorem dX6_goes_101 : decode cX6_goes 101 = .ok (.invokevirtual 134, 3) := by decide +kernel
theorem dX6_goes_104 : decode cX6_goes 104 = .ok (.iload_n 2, 1) := by decide +kernel
theorem dX6_goes_105 : decode cX6_goes 105 = .ok (.iload_n 2, 1) := by decide +kernel
theorem dX6_goes_106 : decode cX6_goes 106 = .ok (.ifCond .le 7, 3) := by decide +kernel
theorem dX6_goes_109 : decode cX6_goes 109 = .ok (.iconst (-1), 1) := by decide +kernel
theorem dX6_goes_110 : decode cX6_goes 110 = .ok (.goto 4, 3) := by decide +kernel
theorem dX6_goes_113 : decode cX6_goes 113 = .ok (.iconst 1, 1) := by decide +kernel
theorem dX6_goes_114 : decode cX6_goes 114 = .ok (.iadd, 1) := by decide +kernel
theorem dX6_goes_115 : decode cX6_goes 115 = .ok (.istore_n 2, 1) := by decide +kernel
theorem dX6_goes_116 : decode cX6_goes 116 = .ok (.goto (-103), 3) := by decide +kernel
theorem dX6_goes_119 : decode cX6_goes 119 = .ok (.return_, 1) := by decide +kernel
set_option maxRecDepth 20000 in
theorem ggX6_minute_X6_goes : GoodIn wsX6_minute wsX6_goes := goodIn_r _ [6, 1, 7, 8, 9, 5, 10, 11, 12, 13, 14, 15, 16, 17, 18, 19, 20, 21, 22, 23, 24, 25, 26, 27, 28, 29, 30, 31, 32, 33, 34, 35, 36, 37, 38, 39, 40, 41, 42, 43, 44, 45, 46, 47, 48, 49, 50, 51, 52, 53, 54, 55, 56, 57, 58, 59, 60, 61, 62] (by decide +kernel) (by decide +kernel)
set_option maxRecDepth 20000 in
theorem gX6_minute_X6_goes : GoodIn wsX6_minute (wsV RX6 138 RX6 yX6_goes wsX6_goes) := goodIn_app (goodIn_of _ (by decide +kernel)) ggX6_minute_X6_goes
theorem dX6_minute_0 : decode cX6_minute 0 = .ok (.iconst 0, 1) := by decide +kernel
theorem dX6_minute_1 : decode cX6_minute 1 = .ok (.istore_n 1, 1) := by decide +kernel
theorem dX6_minute_2 : decode cX6_minute 2 = .ok (.iload_n 1, 1) := by decide +kernel
theorem dX6_minute_3 : decode cX6_minute 3 = .ok (.aload_n 0, 1) := by decide +kernel
theorem dX6_minute_4 : decode cX6_minute 4 = .ok (.getfield 7, 3) := by decide +kernel
theorem dX6_minute_7 : decode cX6_minute 7 = .ok (.bipush 6, 2) := by decide +kernel
theorem dX6_minute_9 : decode cX6_minute 9 = .ok (.iaload, 1) := by decide +kernel
theorem dX6_minute_10 : decode cX6_minute 10 = .ok (.if_icmp .ge 14, 3) := by decide +kernel
theorem dX6_minute_13 : decode cX6_minute 13 = .ok (.aload_n 0, 1) := by decide +kernel
theorem dX6_minute_14 : decode cX6_minute 14 = .ok (.iload_n 1, 1) := by decide +kernel
theorem dX6_minute_15 : decode cX6_minute 15 = .ok (.invokevirtual 138, 3) := by decide +kernel
theorem dX6_minute_18 : decode cX6_minute 18 = .ok (.iinc 1 1, 3) := by decide +kernel
theorem dX6_minute_21 : decode cX6_minute 21 = .ok (.goto (-19), 3) := by decide +kernel
theorem dX6_minute_24 : decode cX6_minute 24 = .ok (.aload_n 0, 1) := by decide +kernel
theorem dX6_minute_25 : decode cX6_minute 25 = .ok (.getfield 7, 3) := by decide +kernel
theorem dX6_minute_28 : decode cX6_minute 28 = .ok (.iconst 0, 1) := by decide +kernel
theorem dX6_minute_29 : decode cX6_minute 29 = .ok (.dup2, 1) := by decide +kernel
theorem dX6_minute_30 : decode cX6_minute 30 = .ok (.iaload, 1) := by decide +kernel
theorem dX6_minute_31 : decode cX6_minute 31 = .ok (.iconst 1, 1) := by decide +kernel
theorem dX6_minute_32 : decode cX6_minute 32 = .ok (.iadd, 1) := by decide +kernel
theorem dX6_minute_33 : decode cX6_minute 33 = .ok (.iastore, 1) := by decide +kernel
theorem dX6_minute_34 : decode cX6_minute 34 = .ok (.return_, 1) := by decide +kernel
theorem dX6_draw_0 : decode cX6_draw 0 = .ok (.aload_n 0, 1) := by decide +kernel
theorem dX6_draw_1 : decode cX6_draw 1 = .ok (.getfield 7, 3) := by decide +kernel
theorem dX6_draw_4 : decode cX6_draw 4 = .ok (.iconst 3, 1) := by decide +kernel
theorem dX6_draw_5 : decode cX6_draw 5 = .ok (.aload_n 0, 1) := by decide +kernel
theorem dX6_draw_6 : decode cX6_draw 6 = .ok (.getfield 7, 3) := by decide +kernel
theorem dX6_draw_9 : decode cX6_draw 9 = .ok (.iconst 3, 1) := by decide +kernel
theorem dX6_draw_10 : decode cX6_draw 10 = .ok (.iaload, 1) := by decide +kernel
theorem dX6_draw_11 : decode cX6_draw 11 = .ok (.ldc 141, 2) := by decide +kernel
theorem dX6_draw_13 : decode cX6_draw 13 = .ok (.imul, 1) := by decide +kernel
theorem dX6_draw_14 : decode cX6_draw 14 = .ok (.sipush 12345, 3) := by decide +kernel
theorem dX6_draw_17 : decode cX6_draw 17 = .ok (.iadd, 1) := by decide +kernel
theorem dX6_draw_18 : decode cX6_draw 18 = .ok (.iastore, 1) := by decide +kernel
theorem dX6_draw_19 : decode cX6_draw 19 = .ok (.aload_n 0, 1) := by decide +kernel
theorem dX6_draw_20 : decode cX6_draw 20 = .ok (.getfield 7, 3) := by decide +kernel
theorem dX6_draw_23 : decode cX6_draw 23 = .ok (.iconst 3, 1) := by decide +kernel
theorem dX6_draw_24 : decode cX6_draw 24 = .ok (.iaload, 1) := by decide +kernel
theorem dX6_draw_25 : decode cX6_draw 25 = .ok (.bipush 8, 2) := by decide +kernel
theorem dX6_draw_27 : decode cX6_draw 27 = .ok (.iushr, 1) := by decide +kernel
theorem dX6_draw_28 : decode cX6_draw 28 = .ok (.ireturn, 1) := by decide +kernel
set_option maxRecDepth 20000 in
theorem ggX6_pairs_X6_its : GoodIn wsX6_pairs wsX6_its := goodIn_r _ [6, 1, 7, 8, 9, 10, 11, 12, 13, 14, 15, 16, 17, 18, 19, 20, 21, 22, 23, 24, 25, 26] (by decide +kernel) (by decide +kernel)
set_option maxRecDepth 20000 in
theorem gX6_pairs_X6_its : GoodIn wsX6_pairs (wsV RX6 115 RX6 yX6_its wsX6_its) := goodIn_app (goodIn_of _ (by decide +kernel)) ggX6_pairs_X6_its
theorem dX6_pairs_0 : decode cX6_pairs 0 = .ok (.iconst 0, 1) := by decide +kernel
theorem dX6_pairs_1 : decode cX6_pairs 1 = .ok (.istore_n 1, 1) := by decide +kernel
theorem dX6_pairs_2 : decode cX6_pairs 2 = .ok (.iconst 0, 1) := by decide +kernel
theorem dX6_pairs_3 : decode cX6_pairs 3 = .ok (.istore_n 2, 1) := by decide +kernel
theorem dX6_pairs_4 : decode cX6_pairs 4 = .ok (.iload_n 2, 1) := by decide +kernel
theorem dX6_pairs_5 : decode cX6_pairs 5 = .ok (.aload_n 0, 1) := by decide +kernel
theorem dX6_pairs_6 : decode cX6_pairs 6 = .ok (.getfield 7, 3) := by decide +kernel
theorem dX6_pairs_9 : decode cX6_pairs 9 = .ok (.bipush 6, 2) := by decide +kernel
theorem dX6_pairs_11 : decode cX6_pairs 11 = .ok (.iaload, 1) := by decide +kernel
theorem dX6_pairs_12 : decode cX6_pairs 12 = .ok (.if_icmp .ge 45, 3) := by decide +kernel
theorem dX6_pairs_15 : decode cX6_pairs 15 = .ok (.iconst 0, 1) := by decide +kernel
theorem dX6_pairs_16 : decode cX6_pairs 16 = .ok (.istore_n 3, 1) := by decide +kernel
theorem dX6_pairs_17 : decode cX6_pairs 17 = .ok (.iload_n 3, 1) := by decide +kernel
theorem dX6_pairs_18 : decode cX6_pairs 18 = .ok (.iload_n 2, 1) := by decide +kernel
theorem dX6_pairs_19 : decode cX6_pairs 19 = .ok (.if_icmp .ge 32, 3) := by decide +kernel
theorem dX6_pairs_22 : decode cX6_pairs 22 = .ok (.iload_n 1, 1) := by decide +kernel
theorem dX6_pairs_23 : decode cX6_pairs 23 = .ok (.aload_n 0, 1) := by decide +kernel
theorem dX6_pairs_24 : decode cX6_pairs 24 = .ok (.iload_n 2, 1) := by decide +kernel
theorem dX6_pairs_25 : decode cX6_pairs 25 = .ok (.iconst 2, 1) := by decide +kernel
theorem dX6_pairs_26 : decode cX6_pairs 26 = .ok (.invokevirtual 115, 3) := by decide +kernel
theorem dX6_pairs_29 : decode cX6_pairs 29 = .ok (.aload_n 0, 1) := by decide +kernel
theorem dX6_pairs_30 : decode cX6_pairs 30 = .ok (.iload_n 3, 1) := by decide +kernel
theorem dX6_pairs_31 : decode cX6_pairs 31 = .ok (.iconst 2, 1) := by decide +kernel
theorem dX6_pairs_32 : decode cX6_pairs 32 = .ok (.invokevirtual 115, 3) := by decide +kernel
theorem dX6_pairs_35 : decode cX6_pairs 35 = .ok (.if_icmp .ne 7, 3) := by decide +kernel
theorem dX6_pairs_38 : decode cX6_pairs 38 = .ok (.iconst 1, 1) := by decide +kernel
theorem dX6_pairs_39 : decode cX6_pairs 39 = .ok (.goto 4, 3) := by decide +kernel
theorem dX6_pairs_42 : decode cX6_pairs 42 = .ok (.iconst 0, 1) := by decide +kernel
theorem dX6_pairs_43 : decode cX6_pairs 43 = .ok (.iadd, 1) := by decide +kernel
theorem dX6_pairs_44 : decode cX6_pairs 44 = .ok (.istore_n 1, 1) := by decide +kernel
theorem dX6_pairs_45 : decode cX6_pairs 45 = .ok (.iinc 3 1, 3) := by decide +kernel
theorem dX6_pairs_48 : decode cX6_pairs 48 = .ok (.goto (-31), 3) := by decide +kernel
theorem dX6_pairs_51 : decode cX6_pairs 51 = .ok (.iinc 2 1, 3) := by decide +kernel
theorem dX6_pairs_54 : decode cX6_pairs 54 = .ok (.goto (-50), 3) := by decide +kernel
theorem dX6_pairs_57 : decode cX6_pairs 57 = .ok (.iload_n 1, 1) := by decide +kernel
theorem dX6_pairs_58 : decode cX6_pairs 58 = .ok (.ireturn, 1) := by decide +kernel
set_option maxRecDepth 20000 in
theorem ggX6_build_X6_in : GoodIn wsX6_build wsX6_in := goodIn_r _ [5] (by decide +kernel) (by decide +kernel)
set_option maxRecDepth 20000 in
theorem gX6_build_X6_in : GoodIn wsX6_build (va_wsS RX6 51 yX6_in wsX6_in) := goodIn_app (goodIn_of _ (by decide +kernel)) ggX6_build_X6_in
set_option maxRecDepth 20000 in
theorem ggX6_build_X6_error : GoodIn wsX6_build wsX6_error := goodIn_r _ [9, 10, 11, 16, 17, 18, 19, 20, 21, 22, 23, 24, 25, 26, 27, 28, 29, 30, 31, 32, 33, 34, 35] (by decide +kernel) (by decide +kernel)
set_option maxRecDepth 20000 in
theorem gX6_build_X6_error : GoodIn wsX6_build (wsV RX6 55 RX6 yX6_error wsX6_error) := goodIn_app (goodIn_of _ (by decide +kernel)) ggX6_build_X6_error
set_option maxRecDepth 20000 in
theorem ggX6_build_X6_builds : GoodIn wsX6_build wsX6_builds := goodIn_r _ [15, 1, 16, 17, 18, 19, 20, 21, 22, 23, 24, 25, 26, 27, 28, 29, 30, 31, 32, 33, 34, 35] (by decide +kernel) (by decide +kernel)
set_option maxRecDepth 20000 in
theorem gX6_build_X6_builds : GoodIn wsX6_build (wsV RX6 46 RX6 yX6_builds wsX6_builds) := goodIn_app (goodIn_of _ (by decide +kernel)) ggX6_build_X6_builds
theorem dX6_build_0 : decode cX6_build 0 = .ok (.iload_n 1, 1) := by decide +kernel
theorem dX6_build_1 : decode cX6_build 1 = .ok (.iconst 4, 1) := by decide +kernel
theorem dX6_build_2 : decode cX6_build 2 = .ok (.bipush 14, 2) := by decide +kernel
theorem dX6_build_4 : decode cX6_build 4 = .ok (.invokestatic 51, 3) := by decide +kernel
theorem dX6_build_7 : decode cX6_build 7 = .ok (.ifCond .ne 9, 3) := by decide +kernel
theorem dX6_build_10 : decode cX6_build 10 = .ok (.aload_n 0, 1) := by decide +kernel
theorem dX6_build_11 : decode cX6_build 11 = .ok (.iconst 1, 1) := by decide +kernel
theorem dX6_build_12 : decode cX6_build 12 = .ok (.invokevirtual 55, 3) := by decide +kernel
theorem dX6_build_15 : decode cX6_build 15 = .ok (.ireturn, 1) := by decide +kernel
theorem dX6_build_16 : decode cX6_build 16 = .ok (.aload_n 0, 1) := by decide +kernel
theorem dX6_build_17 : decode cX6_build 17 = .ok (.getfield 7, 3) := by decide +kernel
theorem dX6_build_20 : decode cX6_build 20 = .ok (.bipush 6, 2) := by decide +kernel
theorem dX6_build_22 : decode cX6_build 22 = .ok (.iaload, 1) := by decide +kernel
theorem dX6_build_23 : decode cX6_build 23 = .ok (.ifCond .le 9, 3) := by decide +kernel
theorem dX6_build_26 : decode cX6_build 26 = .ok (.aload_n 0, 1) := by decide +kernel
theorem dX6_build_27 : decode cX6_build 27 = .ok (.iconst 3, 1) := by decide +kernel
theorem dX6_build_28 : decode cX6_build 28 = .ok (.invokevirtual 55, 3) := by decide +kernel
theorem dX6_build_31 : decode cX6_build 31 = .ok (.ireturn, 1) := by decide +kernel
theorem dX6_build_32 : decode cX6_build 32 = .ok (.aload_n 0, 1) := by decide +kernel
theorem dX6_build_33 : decode cX6_build 33 = .ok (.getfield 7, 3) := by decide +kernel
theorem dX6_build_36 : decode cX6_build 36 = .ok (.iconst 1, 1) := by decide +kernel
theorem dX6_build_37 : decode cX6_build 37 = .ok (.iaload, 1) := by decide +kernel
theorem dX6_build_38 : decode cX6_build 38 = .ok (.istore_n 2, 1) := by decide +kernel
theorem dX6_build_39 : decode cX6_build 39 = .ok (.aload_n 0, 1) := by decide +kernel
theorem dX6_build_40 : decode cX6_build 40 = .ok (.iload_n 1, 1) := by decide +kernel
theorem dX6_build_41 : decode cX6_build 41 = .ok (.invokevirtual 46, 3) := by decide +kernel
theorem dX6_build_44 : decode cX6_build 44 = .ok (.iload_n 2, 1) := by decide +kernel
theorem dX6_build_45 : decode cX6_build 45 = .ok (.ireturn, 1) := by decide +kernel
set_option maxRecDepth 20000 in
theorem ggX6_rise_X6_isStep : GoodIn wsX6_rise wsX6_isStep := goodIn_r _ [5, 6, 7, 8, 4, 9, 20, 21, 22, 23, 24, 25, 26, 27, 28, 29, 30, 31, 32, 33, 34, 35, 36, 37, 38, 39] (by decide +kernel) (by decide +kernel)
set_option maxRecDepth 20000 in
theorem gX6_rise_X6_isStep : GoodIn wsX6_rise (wsV RX6 142 RX6 yX6_isStep wsX6_isStep) := goodIn_app (goodIn_of _ (by decide +kernel)) ggX6_rise_X6_isStep
set_option maxRecDepth 20000 in
theorem ggX6_rise_X6_in : GoodIn wsX6_rise wsX6_in := goodIn_r _ [9] (by decide +kernel) (by decide +kernel)
set_option maxRecDepth 20000 in
theorem gX6_rise_X6_in : GoodIn wsX6_rise (va_wsS RX6 51 yX6_in wsX6_in) := goodIn_app (goodIn_of _ (by decide +kernel)) ggX6_rise_X6_in
set_option maxRecDepth 20000 in
theorem ggX6_rise_X6_change1 : GoodIn wsX6_rise wsX6_change1 := goodIn_r _ [13, 6, 20, 21, 22, 23, 24, 25, 26, 27, 28, 29, 30, 31, 32, 33, 34, 35, 36, 37, 38, 39] (by decide +kernel) (by decide +kernel)
set_option maxRecDepth 20000 in
theorem gX6_rise_X6_change1 : GoodIn wsX6_rise (wsV RX6 145 RX6 yX6_change1 wsX6_change1) := goodIn_app (goodIn_of _ (by decide +kernel)) ggX6_rise_X6_change1
set_option maxRecDepth 20000 in
theorem ggX6_rise_X6_error : GoodIn wsX6_rise wsX6_error := goodIn_r _ [17, 18, 19, 20, 21, 22, 23, 24, 25, 26, 27, 28, 29, 30, 31, 32, 33, 34, 35, 36, 37, 38, 39] (by decide +kernel) (by decide +kernel)
set_option maxRecDepth 20000 in
theorem gX6_rise_X6_error : GoodIn wsX6_rise (wsV RX6 55 RX6 yX6_error wsX6_error) := goodIn_app (goodIn_of _ (by decide +kernel)) ggX6_rise_X6_error
theorem dX6_rise_0 : decode cX6_rise 0 = .ok (.aload_n 0, 1) := by decide +kernel
theorem dX6_rise_1 : decode cX6_rise 1 = .ok (.iload_n 1, 1) := by decide +kernel
theorem dX6_rise_2 : decode cX6_rise 2 = .ok (.invokevirtual 142, 3) := by decide +kernel
theorem dX6_rise_5 : decode cX6_rise 5 = .ok (.ifCond .eq 26, 3) := by decide +kernel
theorem dX6_rise_8 : decode cX6_rise 8 = .ok (.iload_n 2, 1) := by decide +kernel
theorem dX6_rise_9 : decode cX6_rise 9 = .ok (.bipush (-9), 2) := by decide +kernel
theorem dX6_rise_11 : decode cX6_rise 11 = .ok (.bipush 9, 2) := by decide +kernel
theorem dX6_rise_13 : decode cX6_rise 13 = .ok (.invokestatic 51, 3) := by decide +kernel
theorem dX6_rise_16 : decode cX6_rise 16 = .ok (.ifCond .eq 15, 3) := by decide +kernel
theorem dX6_rise_19 : decode cX6_rise 19 = .ok (.aload_n 0, 1) := by decide +kernel
theorem dX6_rise_20 : decode cX6_rise 20 = .ok (.bipush 32, 2) := by decide +kernel
theorem dX6_rise_22 : decode cX6_rise 22 = .ok (.iload_n 1, 1) := by decide +kernel
theorem dX6_rise_23 : decode cX6_rise 23 = .ok (.iadd, 1) := by decide +kernel
theorem dX6_rise_24 : decode cX6_rise 24 = .ok (.iload_n 2, 1) := by decide +kernel
theorem dX6_rise_25 : decode cX6_rise 25 = .ok (.invokevirtual 145, 3) := by decide +kernel
theorem dX6_rise_28 : decode cX6_rise 28 = .ok (.goto 8, 3) := by decide +kernel
theorem dX6_rise_31 : decode cX6_rise 31 = .ok (.aload_n 0, 1) := by decide +kernel
theorem dX6_rise_32 : decode cX6_rise 32 = .ok (.iconst 1, 1) := by decide +kernel
theorem dX6_rise_33 : decode cX6_rise 33 = .ok (.invokevirtual 55, 3) := by decide +kernel
theorem dX6_rise_36 : decode cX6_rise 36 = .ok (.ireturn, 1) := by decide +kernel
set_option maxRecDepth 20000 in
theorem ggX6_howManyAt_X6_its : GoodIn wsX6_howManyAt wsX6_its := goodIn_r _ [6, 1, 7, 8, 9, 10, 11, 12, 13, 14, 15, 16, 17, 18, 19, 20, 21, 22, 23, 24, 25, 26] (by decide +kernel) (by decide +kernel)
set_option maxRecDepth 20000 in
theorem gX6_howManyAt_X6_its : GoodIn wsX6_howManyAt (wsV RX6 115 RX6 yX6_its wsX6_its) := goodIn_app (goodIn_of _ (by decide +kernel)) ggX6_howManyAt_X6_its
theorem dX6_howManyAt_0 : decode cX6_howManyAt 0 = .ok (.iconst 0, 1) := by decide +kernel
theorem dX6_howManyAt_1 : decode cX6_howManyAt 1 = .ok (.istore_n 2, 1) := by decide +kernel
theorem dX6_howManyAt_2 : decode cX6_howManyAt 2 = .ok (.iconst 0, 1) := by decide +kernel
theorem dX6_howManyAt_3 : decode cX6_howManyAt 3 = .ok (.istore_n 3, 1) := by decide +kernel
theorem dX6_howManyAt_4 : decode cX6_howManyAt 4 = .ok (.iload_n 3, 1) := by decide +kernel
theorem dX6_howManyAt_5 : decode cX6_howManyAt 5 = .ok (.aload_n 0, 1) := by decide +kernel
theorem dX6_howManyAt_6 : decode cX6_howManyAt 6 = .ok (.getfield 7, 3) := by decide +kernel
theorem dX6_howManyAt_9 : decode cX6_howManyAt 9 = .ok (.bipush 6, 2) := by decide +kernel
theorem dX6_howManyAt_11 : decode cX6_howManyAt 11 = .ok (.iaload, 1) := by decide +kernel
theorem dX6_howManyAt_12 : decode cX6_howManyAt 12 = .ok (.if_icmp .ge 27, 3) := by decide +kernel
theorem dX6_howManyAt_15 : decode cX6_howManyAt 15 = .ok (.iload_n 2, 1) := by decide +kernel
theorem dX6_howManyAt_16 : decode cX6_howManyAt 16 = .ok (.aload_n 0, 1) := by decide +kernel
theorem dX6_howManyAt_17 : decode cX6_howManyAt 17 = .ok (.iload_n 3, 1) := by decide +kernel
theorem dX6_howManyAt_18 : decode cX6_howManyAt 18 = .ok (.iconst 2, 1) := by decide +kernel
theorem dX6_howManyAt_19 : decode cX6_howManyAt 19 = .ok (.invokevirtual 115, 3) := by decide +kernel
theorem dX6_howManyAt_22 : decode cX6_howManyAt 22 = .ok (.iload_n 1, 1) := by decide +kernel
theorem dX6_howManyAt_23 : decode cX6_howManyAt 23 = .ok (.if_icmp .ne 7, 3) := by decide +kernel
theorem dX6_howManyAt_26 : decode cX6_howManyAt 26 = .ok (.iconst 1, 1) := by decide +kernel
theorem dX6_howManyAt_27 : decode cX6_howManyAt 27 = .ok (.goto 4, 3) := by decide +kernel
theorem dX6_howManyAt_30 : decode cX6_howManyAt 30 = .ok (.iconst 0, 1) := by decide +kernel
theorem dX6_howManyAt_31 : decode cX6_howManyAt 31 = .ok (.iadd, 1) := by decide +kernel
theorem dX6_howManyAt_32 : decode cX6_howManyAt 32 = .ok (.istore_n 2, 1) := by decide +kernel
theorem dX6_howManyAt_33 : decode cX6_howManyAt 33 = .ok (.iinc 3 1, 3) := by decide +kernel
theorem dX6_howManyAt_36 : decode cX6_howManyAt 36 = .ok (.goto (-32), 3) := by decide +kernel
theorem dX6_howManyAt_39 : decode cX6_howManyAt 39 = .ok (.iload_n 2, 1) := by decide +kernel
theorem dX6_howManyAt_40 : decode cX6_howManyAt 40 = .ok (.ireturn, 1) := by decide +kernel
set_option maxRecDepth 20000 in
theorem ggX6_stepIs_X6_isStep : GoodIn wsX6_stepIs wsX6_isStep := goodIn_r _ [6, 1, 7, 8, 5, 9, 24, 25, 26, 27, 28, 29, 30, 31, 32, 33, 34, 35, 36, 37, 38, 39, 40, 41, 42, 43] (by decide +kernel) (by decide +kernel)
set_option maxRecDepth 20000 in
theorem gX6_stepIs_X6_isStep : GoodIn wsX6_stepIs (wsV RX6 142 RX6 yX6_isStep wsX6_isStep) := goodIn_app (goodIn_of _ (by decide +kernel)) ggX6_stepIs_X6_isStep
set_option maxRecDepth 20000 in
theorem ggX6_stepIs_X6_in : GoodIn wsX6_stepIs wsX6_in := goodIn_r _ [9] (by decide +kernel) (by decide +kernel)
set_option maxRecDepth 20000 in
theorem gX6_stepIs_X6_in : GoodIn wsX6_stepIs (va_wsS RX6 51 yX6_in wsX6_in) := goodIn_app (goodIn_of _ (by decide +kernel)) ggX6_stepIs_X6_in
set_option maxRecDepth 20000 in
theorem ggX6_stepIs_X6_error : GoodIn wsX6_stepIs wsX6_error := goodIn_r _ [13, 14, 15, 24, 25, 26, 27, 28, 29, 30, 31, 32, 33, 34, 35, 36, 37, 38, 39, 40, 41, 42, 43] (by decide +kernel) (by decide +kernel)
set_option maxRecDepth 20000 in
theorem gX6_stepIs_X6_error : GoodIn wsX6_stepIs (wsV RX6 55 RX6 yX6_error wsX6_error) := goodIn_app (goodIn_of _ (by decide +kernel)) ggX6_stepIs_X6_error
set_option maxRecDepth 20000 in
theorem ggX6_stepIs_X6_howManyAt : GoodIn wsX6_stepIs wsX6_howManyAt := goodIn_r _ [19, 1, 20, 21, 22, 5, 23, 24, 25, 26, 27, 28, 29, 30, 31, 32, 33, 34, 35, 36, 37, 38, 39, 40, 41, 42, 43] (by decide +kernel) (by decide +kernel)
set_option maxRecDepth 20000 in
theorem gX6_stepIs_X6_howManyAt : GoodIn wsX6_stepIs (wsV RX6 148 RX6 yX6_howManyAt wsX6_howManyAt) := goodIn_app (goodIn_of _ (by decide +kernel)) ggX6_stepIs_X6_howManyAt
theorem dX6_stepIs_0 : decode cX6_stepIs 0 = .ok (.aload_n 0, 1) := by decide +kernel
theorem dX6_stepIs_1 : decode cX6_stepIs 1 = .ok (.iload_n 1, 1) := by decide +kernel
theorem dX6_stepIs_2 : decode cX6_stepIs 2 = .ok (.invokevirtual 142, 3) := by decide +kernel
theorem dX6_stepIs_5 : decode cX6_stepIs 5 = .ok (.ifCond .eq 12, 3) := by decide +kernel
theorem dX6_stepIs_8 : decode cX6_stepIs 8 = .ok (.iload_n 2, 1) := by decide +kernel
theorem dX6_stepIs_9 : decode cX6_stepIs 9 = .ok (.iconst 0, 1) := by decide +kernel
theorem dX6_stepIs_10 : decode cX6_stepIs 10 = .ok (.iconst 2, 1) := by decide +kernel
theorem dX6_stepIs_11 : decode cX6_stepIs 11 = .ok (.invokestatic 51, 3) := by decide +kernel
theorem dX6_stepIs_14 : decode cX6_stepIs 14 = .ok (.ifCond .ne 9, 3) := by decide +kernel
theorem dX6_stepIs_17 : decode cX6_stepIs 17 = .ok (.aload_n 0, 1) := by decide +kernel
theorem dX6_stepIs_18 : decode cX6_stepIs 18 = .ok (.iconst 1, 1) := by decide +kernel
theorem dX6_stepIs_19 : decode cX6_stepIs 19 = .ok (.invokevirtual 55, 3) := by decide +kernel
theorem dX6_stepIs_22 : decode cX6_stepIs 22 = .ok (.ireturn, 1) := by decide +kernel
theorem dX6_stepIs_23 : decode cX6_stepIs 23 = .ok (.iload_n 2, 1) := by decide +kernel
theorem dX6_stepIs_24 : decode cX6_stepIs 24 = .ok (.ifCond .ne 15, 3) := by decide +kernel
theorem dX6_stepIs_27 : decode cX6_stepIs 27 = .ok (.aload_n 0, 1) := by decide +kernel
theorem dX6_stepIs_28 : decode cX6_stepIs 28 = .ok (.getfield 7, 3) := by decide +kernel
theorem dX6_stepIs_31 : decode cX6_stepIs 31 = .ok (.bipush 32, 2) := by decide +kernel
theorem dX6_stepIs_33 : decode cX6_stepIs 33 = .ok (.iload_n 1, 1) := by decide +kernel
theorem dX6_stepIs_34 : decode cX6_stepIs 34 = .ok (.iadd, 1) := by decide +kernel
theorem dX6_stepIs_35 : decode cX6_stepIs 35 = .ok (.iaload, 1) := by decide +kernel
theorem dX6_stepIs_36 : decode cX6_stepIs 36 = .ok (.goto 31, 3) := by decide +kernel
theorem dX6_stepIs_39 : decode cX6_stepIs 39 = .ok (.iload_n 2, 1) := by decide +kernel
theorem dX6_stepIs_40 : decode cX6_stepIs 40 = .ok (.iconst 1, 1) := by decide +kernel
theorem dX6_stepIs_41 : decode cX6_stepIs 41 = .ok (.if_icmp .ne 21, 3) := by decide +kernel
theorem dX6_stepIs_44 : decode cX6_stepIs 44 = .ok (.aload_n 0, 1) := by decide +kernel
theorem dX6_stepIs_45 : decode cX6_stepIs 45 = .ok (.getfield 7, 3) := by decide +kernel
theorem dX6_stepIs_48 : decode cX6_stepIs 48 = .ok (.iconst 2, 1) := by decide +kernel
theorem dX6_stepIs_49 : decode cX6_stepIs 49 = .ok (.iaload, 1) := by decide +kernel
theorem dX6_stepIs_50 : decode cX6_stepIs 50 = .ok (.iload_n 1, 1) := by decide +kernel
theorem dX6_stepIs_51 : decode cX6_stepIs 51 = .ok (.if_icmp .ne 7, 3) := by decide +kernel
theorem dX6_stepIs_54 : decode cX6_stepIs 54 = .ok (.iconst 1, 1) := by decide +kernel
theorem dX6_stepIs_55 : decode cX6_stepIs 55 = .ok (.goto 12, 3) := by decide +kernel
theorem dX6_stepIs_58 : decode cX6_stepIs 58 = .ok (.iconst 0, 1) := by decide +kernel
theorem dX6_stepIs_59 : decode cX6_stepIs 59 = .ok (.goto 8, 3) := by decide +kernel
theorem dX6_stepIs_62 : decode cX6_stepIs 62 = .ok (.aload_n 0, 1) := by decide +kernel
theorem dX6_stepIs_63 : decode cX6_stepIs 63 = .ok (.iload_n 1, 1) := by decide +kernel
theorem dX6_stepIs_64 : decode cX6_stepIs 64 = .ok (.invokevirtual 148, 3) := by decide +kernel
theorem dX6_stepIs_67 : decode cX6_stepIs 67 = .ok (.ireturn, 1) := by decide +kernel
set_option maxRecDepth 20000 in
theorem ggX6_hide_X6_isStep : GoodIn wsX6_hide wsX6_isStep := goodIn_r _ [5, 6, 7, 8, 4, 9, 20, 21, 22, 23, 24, 25, 26, 27, 28, 29, 30, 31, 32, 33, 34, 35, 36, 37, 38, 39] (by decide +kernel) (by decide +kernel)
set_option maxRecDepth 20000 in
theorem gX6_hide_X6_isStep : GoodIn wsX6_hide (wsV RX6 142 RX6 yX6_isStep wsX6_isStep) := goodIn_app (goodIn_of _ (by decide +kernel)) ggX6_hide_X6_isStep
set_option maxRecDepth 20000 in
theorem ggX6_hide_X6_change1 : GoodIn wsX6_hide wsX6_change1 := goodIn_r _ [13, 6, 20, 21, 22, 23, 24, 25, 26, 27, 28, 29, 30, 31, 32, 33, 34, 35, 36, 37, 38, 39] (by decide +kernel) (by decide +kernel)
set_option maxRecDepth 20000 in
theorem gX6_hide_X6_change1 : GoodIn wsX6_hide (wsV RX6 145 RX6 yX6_change1 wsX6_change1) := goodIn_app (goodIn_of _ (by decide +kernel)) ggX6_hide_X6_change1
set_option maxRecDepth 20000 in
theorem ggX6_hide_X6_error : GoodIn wsX6_hide wsX6_error := goodIn_r _ [17, 18, 19, 20, 21, 22, 23, 24, 25, 26, 27, 28, 29, 30, 31, 32, 33, 34, 35, 36, 37, 38, 39] (by decide +kernel) (by decide +kernel)
set_option maxRecDepth 20000 in
theorem gX6_hide_X6_error : GoodIn wsX6_hide (wsV RX6 55 RX6 yX6_error wsX6_error) := goodIn_app (goodIn_of _ (by decide +kernel)) ggX6_hide_X6_error
theorem dX6_hide_0 : decode cX6_hide 0 = .ok (.iload_n 1, 1) := by decide +kernel
theorem dX6_hide_1 : decode cX6_hide 1 = .ok (.iconst (-1), 1) := by decide +kernel
theorem dX6_hide_2 : decode cX6_hide 2 = .ok (.if_icmp .eq 11, 3) := by decide +kernel
theorem dX6_hide_5 : decode cX6_hide 5 = .ok (.aload_n 0, 1) := by decide +kernel
theorem dX6_hide_6 : decode cX6_hide 6 = .ok (.iload_n 1, 1) := by decide +kernel
theorem dX6_hide_7 : decode cX6_hide 7 = .ok (.invokevirtual 142, 3) := by decide +kernel
theorem dX6_hide_10 : decode cX6_hide 10 = .ok (.ifCond .eq 12, 3) := by decide +kernel
theorem dX6_hide_13 : decode cX6_hide 13 = .ok (.aload_n 0, 1) := by decide +kernel
theorem dX6_hide_14 : decode cX6_hide 14 = .ok (.iconst 2, 1) := by decide +kernel
theorem dX6_hide_15 : decode cX6_hide 15 = .ok (.iload_n 1, 1) := by decide +kernel
theorem dX6_hide_16 : decode cX6_hide 16 = .ok (.invokevirtual 145, 3) := by decide +kernel
theorem dX6_hide_19 : decode cX6_hide 19 = .ok (.goto 8, 3) := by decide +kernel
theorem dX6_hide_22 : decode cX6_hide 22 = .ok (.aload_n 0, 1) := by decide +kernel
theorem dX6_hide_23 : decode cX6_hide 23 = .ok (.iconst 1, 1) := by decide +kernel
theorem dX6_hide_24 : decode cX6_hide 24 = .ok (.invokevirtual 55, 3) := by decide +kernel
theorem dX6_hide_27 : decode cX6_hide 27 = .ok (.ireturn, 1) := by decide +kernel
set_option maxRecDepth 20000 in
theorem ggX6_isKind_X6_in : GoodIn wsX6_isKind wsX6_in := goodIn_r _ [4] (by decide +kernel) (by decide +kernel)
set_option maxRecDepth 20000 in
theorem gX6_isKind_X6_in : GoodIn wsX6_isKind (va_wsS RX6 51 yX6_in wsX6_in) := goodIn_app (goodIn_of _ (by decide +kernel)) ggX6_isKind_X6_in
theorem dX6_isKind_0 : decode cX6_isKind 0 = .ok (.iload_n 0, 1) := by decide +kernel
theorem dX6_isKind_1 : decode cX6_isKind 1 = .ok (.iconst 0, 1) := by decide +kernel
theorem dX6_isKind_2 : decode cX6_isKind 2 = .ok (.bipush 69, 2) := by decide +kernel
theorem dX6_isKind_4 : decode cX6_isKind 4 = .ok (.invokestatic 51, 3) := by decide +kernel
theorem dX6_isKind_7 : decode cX6_isKind 7 = .ok (.ireturn, 1) := by decide +kernel
set_option maxRecDepth 20000 in
theorem ggX6_climber_X6_isKind : GoodIn wsX6_climber wsX6_isKind := goodIn_r _ [5, 6, 7, 4, 8] (by decide +kernel) (by decide +kernel)
set_option maxRecDepth 20000 in
theorem gX6_climber_X6_isKind : GoodIn wsX6_climber (va_wsS RX6 151 yX6_isKind wsX6_isKind) := goodIn_app (goodIn_of _ (by decide +kernel)) ggX6_climber_X6_isKind
set_option maxRecDepth 20000 in
theorem ggX6_climber_X6_isStep : GoodIn wsX6_climber wsX6_isStep := goodIn_r _ [12, 1, 6, 7, 4, 8, 23, 24, 25, 26, 27, 28, 29, 30, 31, 32, 33, 34, 35, 36, 37, 38, 39, 40, 41, 42] (by decide +kernel) (by decide +kernel)
set_option maxRecDepth 20000 in
theorem gX6_climber_X6_isStep : GoodIn wsX6_climber (wsV RX6 142 RX6 yX6_isStep wsX6_isStep) := goodIn_app (goodIn_of _ (by decide +kernel)) ggX6_climber_X6_isStep
set_option maxRecDepth 20000 in
theorem ggX6_climber_X6_error : GoodIn wsX6_climber wsX6_error := goodIn_r _ [16, 17, 18, 23, 24, 25, 26, 27, 28, 29, 30, 31, 32, 33, 34, 35, 36, 37, 38, 39, 40, 41, 42] (by decide +kernel) (by decide +kernel)
set_option maxRecDepth 20000 in
theorem gX6_climber_X6_error : GoodIn wsX6_climber (wsV RX6 55 RX6 yX6_error wsX6_error) := goodIn_app (goodIn_of _ (by decide +kernel)) ggX6_climber_X6_error
set_option maxRecDepth 20000 in
theorem ggX6_climber_X6_lays1 : GoodIn wsX6_climber wsX6_lays1 := goodIn_r _ [22, 1, 23, 24, 25, 26, 27, 28, 29, 30, 31, 32, 33, 34, 35, 36, 37, 38, 39, 40, 41, 42] (by decide +kernel) (by decide +kernel)
set_option maxRecDepth 20000 in
theorem gX6_climber_X6_lays1 : GoodIn wsX6_climber (wsV RX6 134 RX6 yX6_lays1 wsX6_lays1) := goodIn_app (goodIn_of _ (by decide +kernel)) ggX6_climber_X6_lays1
theorem dX6_climber_0 : decode cX6_climber 0 = .ok (.iload_n 1, 1) := by decide +kernel
theorem dX6_climber_1 : decode cX6_climber 1 = .ok (.invokestatic 151, 3) := by decide +kernel
theorem dX6_climber_4 : decode cX6_climber 4 = .ok (.ifCond .eq 11, 3) := by decide +kernel
theorem dX6_climber_7 : decode cX6_climber 7 = .ok (.aload_n 0, 1) := by decide +kernel
theorem dX6_climber_8 : decode cX6_climber 8 = .ok (.iload_n 2, 1) := by decide +kernel
theorem dX6_climber_9 : decode cX6_climber 9 = .ok (.invokevirtual 142, 3) := by decide +kernel
theorem dX6_climber_12 : decode cX6_climber 12 = .ok (.ifCond .ne 9, 3) := by decide +kernel
theorem dX6_climber_15 : decode cX6_climber 15 = .ok (.aload_n 0, 1) := by decide +kernel
theorem dX6_climber_16 : decode cX6_climber 16 = .ok (.iconst 1, 1) := by decide +kernel
theorem dX6_climber_17 : decode cX6_climber 17 = .ok (.invokevirtual 55, 3) := by decide +kernel
theorem dX6_climber_20 : decode cX6_climber 20 = .ok (.ireturn, 1) := by decide +kernel
theorem dX6_climber_21 : decode cX6_climber 21 = .ok (.aload_n 0, 1) := by decide +kernel
theorem dX6_climber_22 : decode cX6_climber 22 = .ok (.getfield 7, 3) := by decide +kernel
theorem dX6_climber_25 : decode cX6_climber 25 = .ok (.bipush 6, 2) := by decide +kernel
theorem dX6_climber_27 : decode cX6_climber 27 = .ok (.iaload, 1) := by decide +kernel
theorem dX6_climber_28 : decode cX6_climber 28 = .ok (.bipush 6, 2) := by decide +kernel
theorem dX6_climber_30 : decode cX6_climber 30 = .ok (.if_icmp .ne 9, 3) := by decide +kernel
theorem dX6_climber_33 : decode cX6_climber 33 = .ok (.aload_n 0, 1) := by decide +kernel
theorem dX6_climber_34 : decode cX6_climber 34 = .ok (.iconst 4, 1) := by decide +kernel
theorem dX6_climber_35 : decode cX6_climber 35 = .ok (.invokevirtual 55, 3) := by decide +kernel
theorem dX6_climber_38 : decode cX6_climber 38 = .ok (.ireturn, 1) := by decide +kernel
theorem dX6_climber_39 : decode cX6_climber 39 = .ok (.aload_n 0, 1) := by decide +kernel
theorem dX6_climber_40 : decode cX6_climber 40 = .ok (.getfield 7, 3) := by decide +kernel
theorem dX6_climber_43 : decode cX6_climber 43 = .ok (.bipush 6, 2) := by decide +kernel
theorem dX6_climber_45 : decode cX6_climber 45 = .ok (.iaload, 1) := by decide +kernel
theorem dX6_climber_46 : decode cX6_climber 46 = .ok (.istore_n 3, 1) := by decide +kernel
theorem dX6_climber_47 : decode cX6_climber 47 = .ok (.aload_n 0, 1) := by decide +kernel
theorem dX6_climber_48 : decode cX6_climber 48 = .ok (.iload_n 3, 1) := by decide +kernel
theorem dX6_climber_49 : decode cX6_climber 49 = .ok (.iconst 0, 1) := by decide +kernel
theorem dX6_climber_50 : decode cX6_climber 50 = .ok (.iload_n 1, 1) := by decide +kernel
theorem dX6_climber_51 : decode cX6_climber 51 = .ok (.bipush 10, 2) := by decide +kernel
theorem dX6_climber_53 : decode cX6_climber 53 = .ok (.idiv, 1) := by decide +kernel
theorem dX6_climber_54 : decode cX6_climber 54 = .ok (.invokevirtual 134, 3) := by decide +kernel
theorem dX6_climber_57 : decode cX6_climber 57 = .ok (.aload_n 0, 1) := by decide +kernel
theorem dX6_climber_58 : decode cX6_climber 58 = .ok (.iload_n 3, 1) := by decide +kernel
theorem dX6_climber_59 : decode cX6_climber 59 = .ok (.iconst 1, 1) := by decide +kernel
theorem dX6_climber_60 : decode cX6_climber 60 = .ok (.iload_n 1, 1) := by decide +kernel
theorem dX6_climber_61 : decode cX6_climber 61 = .ok (.bipush 10, 2) := by decide +kernel
theorem dX6_climber_63 : decode cX6_climber 63 = .ok (.irem, 1) := by decide +kernel
theorem dX6_climber_64 : decode cX6_climber 64 = .ok (.invokevirtual 134, 3) := by decide +kernel
theorem dX6_climber_67 : decode cX6_climber 67 = .ok (.aload_n 0, 1) := by decide +kernel
theorem dX6_climber_68 : decode cX6_climber 68 = .ok (.iload_n 3, 1) := by decide +kernel
theorem dX6_climber_69 : decode cX6_climber 69 = .ok (.iconst 2, 1) := by decide +kernel
theorem dX6_climber_70 : decode cX6_climber 70 = .ok (.iload_n 2, 1) := by decide +kernel
theorem dX6_climber_71 : decode cX6_climber 71 = .ok (.invokevirtual 134, 3) := by decide +kernel
theorem dX6_climber_74 : decode cX6_climber 74 = .ok (.aload_n 0, 1) := by decide +kernel
theorem dX6_climber_75 : decode cX6_climber 75 = .ok (.iload_n 3, 1) := by decide +kernel
theorem dX6_climber_76 : decode cX6_climber 76 = .ok (.iconst 3, 1) := by decide +kernel
theorem dX6_climber_77 : decode cX6_climber 77 = .ok (.iconst 0, 1) := by decide +kernel
theorem dX6_climber_78 : decode cX6_climber 78 = .ok (.invokevirtual 134, 3) := by decide +kernel
theorem dX6_climber_81 : decode cX6_climber 81 = .ok (.aload_n 0, 1) := by decide +kernel
theorem dX6_climber_82 : decode cX6_climber 82 = .ok (.getfield 7, 3) := by decide +kernel
theorem dX6_climber_85 : decode cX6_climber 85 = .ok (.bipush 6, 2) := by decide +kernel
theorem dX6_climber_87 : decode cX6_climber 87 = .ok (.dup2, 1) := by decide +kernel
theorem dX6_climber_88 : decode cX6_climber 88 = .ok (.iaload, 1) := by decide +kernel
theorem dX6_climber_89 : decode cX6_climber 89 = .ok (.iconst 1, 1) := by decide +kernel
theorem dX6_climber_90 : decode cX6_climber 90 = .ok (.iadd, 1) := by decide +kernel
theorem dX6_climber_91 : decode cX6_climber 91 = .ok (.iastore, 1) := by decide +kernel
theorem dX6_climber_92 : decode cX6_climber 92 = .ok (.iload_n 3, 1) := by decide +kernel
theorem dX6_climber_93 : decode cX6_climber 93 = .ok (.ireturn, 1) := by decide +kernel
set_option maxRecDepth 20000 in
theorem ggX6_climberIs_X6_isClimber : GoodIn wsX6_climberIs wsX6_isClimber := goodIn_r _ [5, 6, 7, 8, 4, 9, 24, 25, 26, 27, 28, 29, 30, 31, 32, 33, 34, 35, 36, 37, 38, 39, 40, 41, 42, 43] (by decide +kernel) (by decide +kernel)
set_option maxRecDepth 20000 in
theorem gX6_climberIs_X6_isClimber : GoodIn wsX6_climberIs (wsV RX6 154 RX6 yX6_isClimber wsX6_isClimber) := goodIn_app (goodIn_of _ (by decide +kernel)) ggX6_climberIs_X6_isClimber
set_option maxRecDepth 20000 in
theorem ggX6_climberIs_X6_in : GoodIn wsX6_climberIs wsX6_in := goodIn_r _ [9] (by decide +kernel) (by decide +kernel)
set_option maxRecDepth 20000 in
theorem gX6_climberIs_X6_in : GoodIn wsX6_climberIs (va_wsS RX6 51 yX6_in wsX6_in) := goodIn_app (goodIn_of _ (by decide +kernel)) ggX6_climberIs_X6_in
set_option maxRecDepth 20000 in
theorem ggX6_climberIs_X6_error : GoodIn wsX6_climberIs wsX6_error := goodIn_r _ [13, 14, 15, 24, 25, 26, 27, 28, 29, 30, 31, 32, 33, 34, 35, 36, 37, 38, 39, 40, 41, 42, 43] (by decide +kernel) (by decide +kernel)
set_option maxRecDepth 20000 in
theorem gX6_climberIs_X6_error : GoodIn wsX6_climberIs (wsV RX6 55 RX6 yX6_error wsX6_error) := goodIn_app (goodIn_of _ (by decide +kernel)) ggX6_climberIs_X6_error
set_option maxRecDepth 20000 in
theorem ggX6_climberIs_X6_its : GoodIn wsX6_climberIs wsX6_its := goodIn_r _ [19, 6, 24, 25, 26, 27, 28, 29, 30, 31, 32, 33, 34, 35, 36, 37, 38, 39, 40, 41, 42, 43] (by decide +kernel) (by decide +kernel)
set_option maxRecDepth 20000 in
theorem gX6_climberIs_X6_its : GoodIn wsX6_climberIs (wsV RX6 115 RX6 yX6_its wsX6_its) := goodIn_app (goodIn_of _ (by decide +kernel)) ggX6_climberIs_X6_its
set_option maxRecDepth 20000 in
theorem ggX6_climberIs_X6_goesBy : GoodIn wsX6_climberIs wsX6_goesBy := goodIn_r _ [23, 6, 16, 17, 18, 4, 19, 24, 25, 26, 27, 28, 29, 30, 31, 32, 33, 34, 35, 36, 37, 38, 39, 40, 41, 42, 43] (by decide +kernel) (by decide +kernel)
set_option maxRecDepth 20000 in
theorem gX6_climberIs_X6_goesBy : GoodIn wsX6_climberIs (wsV RX6 128 RX6 yX6_goesBy wsX6_goesBy) := goodIn_app (goodIn_of _ (by decide +kernel)) ggX6_climberIs_X6_goesBy
theorem dX6_climberIs_0 : decode cX6_climberIs 0 = .ok (.aload_n 0, 1) := by decide +kernel
theorem dX6_climberIs_1 : decode cX6_climberIs 1 = .ok (.iload_n 1, 1) := by decide +kernel
theorem dX6_climberIs_2 : decode cX6_climberIs 2 = .ok (.invokevirtual 154, 3) := by decide +kernel
theorem dX6_climberIs_5 : decode cX6_climberIs 5 = .ok (.ifCond .eq 12, 3) := by decide +kernel
theorem dX6_climberIs_8 : decode cX6_climberIs 8 = .ok (.iload_n 2, 1) := by decide +kernel
theorem dX6_climberIs_9 : decode cX6_climberIs 9 = .ok (.iconst 0, 1) := by decide +kernel
theorem dX6_climberIs_10 : decode cX6_climberIs 10 = .ok (.iconst 4, 1) := by decide +kernel
theorem dX6_climberIs_11 : decode cX6_climberIs 11 = .ok (.invokestatic 51, 3) := by decide +kernel
theorem dX6_climberIs_14 : decode cX6_climberIs 14 = .ok (.ifCond .ne 9, 3) := by decide +kernel
theorem dX6_climberIs_17 : decode cX6_climberIs 17 = .ok (.aload_n 0, 1) := by decide +kernel
theorem dX6_climberIs_18 : decode cX6_climberIs 18 = .ok (.iconst 1, 1) := by decide +kernel
theorem dX6_climberIs_19 : decode cX6_climberIs 19 = .ok (.invokevirtual 55, 3) := by decide +kernel
theorem dX6_climberIs_22 : decode cX6_climberIs 22 = .ok (.ireturn, 1) := by decide +kernel
theorem dX6_climberIs_23 : decode cX6_climberIs 23 = .ok (.iload_n 2, 1) := by decide +kernel
theorem dX6_climberIs_24 : decode cX6_climberIs 24 = .ok (.iconst 4, 1) := by decide +kernel
theorem dX6_climberIs_25 : decode cX6_climberIs 25 = .ok (.if_icmp .ge 12, 3) := by decide +kernel
theorem dX6_climberIs_28 : decode cX6_climberIs 28 = .ok (.aload_n 0, 1) := by decide +kernel
theorem dX6_climberIs_29 : decode cX6_climberIs 29 = .ok (.iload_n 1, 1) := by decide +kernel
theorem dX6_climberIs_30 : decode cX6_climberIs 30 = .ok (.iload_n 2, 1) := by decide +kernel
theorem dX6_climberIs_31 : decode cX6_climberIs 31 = .ok (.invokevirtual 115, 3) := by decide +kernel
theorem dX6_climberIs_34 : decode cX6_climberIs 34 = .ok (.goto 8, 3) := by decide +kernel
theorem dX6_climberIs_37 : decode cX6_climberIs 37 = .ok (.aload_n 0, 1) := by decide +kernel
theorem dX6_climberIs_38 : decode cX6_climberIs 38 = .ok (.iload_n 1, 1) := by decide +kernel
theorem dX6_climberIs_39 : decode cX6_climberIs 39 = .ok (.invokevirtual 128, 3) := by decide +kernel
theorem dX6_climberIs_42 : decode cX6_climberIs 42 = .ok (.ireturn, 1) := by decide +kernel
set_option maxRecDepth 20000 in
theorem ggX6_become_X6_isClimber : GoodIn wsX6_become wsX6_isClimber := goodIn_r _ [5, 6, 7, 8, 4, 9, 27, 28, 29, 30, 31, 32, 33, 34, 35, 36, 37, 38, 39, 40, 41, 42, 43, 44, 45, 46] (by decide +kernel) (by decide +kernel)
set_option maxRecDepth 20000 in
theorem gX6_become_X6_isClimber : GoodIn wsX6_become (wsV RX6 154 RX6 yX6_isClimber wsX6_isClimber) := goodIn_app (goodIn_of _ (by decide +kernel)) ggX6_become_X6_isClimber
set_option maxRecDepth 20000 in
theorem ggX6_become_X6_isKind : GoodIn wsX6_become wsX6_isKind := goodIn_r _ [12, 7, 8, 4, 9] (by decide +kernel) (by decide +kernel)
set_option maxRecDepth 20000 in
theorem gX6_become_X6_isKind : GoodIn wsX6_become (va_wsS RX6 151 yX6_isKind wsX6_isKind) := goodIn_app (goodIn_of _ (by decide +kernel)) ggX6_become_X6_isKind
set_option maxRecDepth 20000 in
theorem ggX6_become_X6_error : GoodIn wsX6_become wsX6_error := goodIn_r _ [16, 17, 18, 27, 28, 29, 30, 31, 32, 33, 34, 35, 36, 37, 38, 39, 40, 41, 42, 43, 44, 45, 46] (by decide +kernel) (by decide +kernel)
set_option maxRecDepth 20000 in
theorem gX6_become_X6_error : GoodIn wsX6_become (wsV RX6 55 RX6 yX6_error wsX6_error) := goodIn_app (goodIn_of _ (by decide +kernel)) ggX6_become_X6_error
set_option maxRecDepth 20000 in
theorem ggX6_become_X6_lays1 : GoodIn wsX6_become wsX6_lays1 := goodIn_r _ [22, 6, 27, 28, 29, 30, 31, 32, 33, 34, 35, 36, 37, 38, 39, 40, 41, 42, 43, 44, 45, 46] (by decide +kernel) (by decide +kernel)
set_option maxRecDepth 20000 in
theorem gX6_become_X6_lays1 : GoodIn wsX6_become (wsV RX6 134 RX6 yX6_lays1 wsX6_lays1) := goodIn_app (goodIn_of _ (by decide +kernel)) ggX6_become_X6_lays1
set_option maxRecDepth 20000 in
theorem ggX6_become_X6_change1 : GoodIn wsX6_become wsX6_change1 := goodIn_r _ [26, 6, 27, 28, 29, 30, 31, 32, 33, 34, 35, 36, 37, 38, 39, 40, 41, 42, 43, 44, 45, 46] (by decide +kernel) (by decide +kernel)
set_option maxRecDepth 20000 in
theorem gX6_become_X6_change1 : GoodIn wsX6_become (wsV RX6 145 RX6 yX6_change1 wsX6_change1) := goodIn_app (goodIn_of _ (by decide +kernel)) ggX6_become_X6_change1
theorem dX6_become_0 : decode cX6_become 0 = .ok (.aload_n 0, 1) := by decide +kernel
theorem dX6_become_1 : decode cX6_become 1 = .ok (.iload_n 1, 1) := by decide +kernel
theorem dX6_become_2 : decode cX6_become 2 = .ok (.invokevirtual 154, 3) := by decide +kernel
theorem dX6_become_5 : decode cX6_become 5 = .ok (.ifCond .eq 10, 3) := by decide +kernel
theorem dX6_become_8 : decode cX6_become 8 = .ok (.iload_n 2, 1) := by decide +kernel
theorem dX6_become_9 : decode cX6_become 9 = .ok (.invokestatic 151, 3) := by decide +kernel
theorem dX6_become_12 : decode cX6_become 12 = .ok (.ifCond .ne 9, 3) := by decide +kernel
theorem dX6_become_15 : decode cX6_become 15 = .ok (.aload_n 0, 1) := by decide +kernel
theorem dX6_become_16 : decode cX6_become 16 = .ok (.iconst 1, 1) := by decide +kernel
theorem dX6_become_17 : decode cX6_become 17 = .ok (.invokevirtual 55, 3) := by decide +kernel
theorem dX6_become_20 : decode cX6_become 20 = .ok (.ireturn, 1) := by decide +kernel
theorem dX6_become_21 : decode cX6_become 21 = .ok (.aload_n 0, 1) := by decide +kernel
theorem dX6_become_22 : decode cX6_become 22 = .ok (.iload_n 1, 1) := by decide +kernel
theorem dX6_become_23 : decode cX6_become 23 = .ok (.iconst 1, 1) := by decide +kernel
theorem dX6_become_24 : decode cX6_become 24 = .ok (.iload_n 2, 1) := by decide +kernel
theorem dX6_become_25 : decode cX6_become 25 = .ok (.bipush 10, 2) := by decide +kernel
theorem dX6_become_27 : decode cX6_become 27 = .ok (.irem, 1) := by decide +kernel
theorem dX6_become_28 : decode cX6_become 28 = .ok (.invokevirtual 134, 3) := by decide +kernel
theorem dX6_become_31 : decode cX6_become 31 = .ok (.aload_n 0, 1) := by decide +kernel
theorem dX6_become_32 : decode cX6_become 32 = .ok (.bipush 8, 2) := by decide +kernel
theorem dX6_become_34 : decode cX6_become 34 = .ok (.iconst 4, 1) := by decide +kernel
theorem dX6_become_35 : decode cX6_become 35 = .ok (.iload_n 1, 1) := by decide +kernel
theorem dX6_become_36 : decode cX6_become 36 = .ok (.imul, 1) := by decide +kernel
theorem dX6_become_37 : decode cX6_become 37 = .ok (.iadd, 1) := by decide +kernel
theorem dX6_become_38 : decode cX6_become 38 = .ok (.iconst 0, 1) := by decide +kernel
theorem dX6_become_39 : decode cX6_become 39 = .ok (.iadd, 1) := by decide +kernel
theorem dX6_become_40 : decode cX6_become 40 = .ok (.iload_n 2, 1) := by decide +kernel
theorem dX6_become_41 : decode cX6_become 41 = .ok (.bipush 10, 2) := by decide +kernel
theorem dX6_become_43 : decode cX6_become 43 = .ok (.idiv, 1) := by decide +kernel
theorem dX6_become_44 : decode cX6_become 44 = .ok (.invokevirtual 145, 3) := by decide +kernel
theorem dX6_become_47 : decode cX6_become 47 = .ok (.ireturn, 1) := by decide +kernel
set_option maxRecDepth 20000 in
theorem ggX6_as_X6_isClimber : GoodIn wsX6_as wsX6_isClimber := goodIn_r _ [5, 6, 7, 8, 4, 9, 23, 24, 25, 26, 27, 28, 29, 30, 31, 32, 33, 34, 35, 36, 37, 38, 39, 40, 41, 42] (by decide +kernel) (by decide +kernel)
set_option maxRecDepth 20000 in
theorem gX6_as_X6_isClimber : GoodIn wsX6_as (wsV RX6 154 RX6 yX6_isClimber wsX6_isClimber) := goodIn_app (goodIn_of _ (by decide +kernel)) ggX6_as_X6_isClimber
set_option maxRecDepth 20000 in
theorem ggX6_as_X6_in : GoodIn wsX6_as wsX6_in := goodIn_r _ [9] (by decide +kernel) (by decide +kernel)
set_option maxRecDepth 20000 in
theorem gX6_as_X6_in : GoodIn wsX6_as (va_wsS RX6 51 yX6_in wsX6_in) := goodIn_app (goodIn_of _ (by decide +kernel)) ggX6_as_X6_in
set_option maxRecDepth 20000 in
theorem ggX6_as_X6_error : GoodIn wsX6_as wsX6_error := goodIn_r _ [13, 14, 15, 23, 24, 25, 26, 27, 28, 29, 30, 31, 32, 33, 34, 35, 36, 37, 38, 39, 40, 41, 42] (by decide +kernel) (by decide +kernel)
set_option maxRecDepth 20000 in
theorem gX6_as_X6_error : GoodIn wsX6_as (wsV RX6 55 RX6 yX6_error wsX6_error) := goodIn_app (goodIn_of _ (by decide +kernel)) ggX6_as_X6_error
set_option maxRecDepth 20000 in
theorem ggX6_as_X6_its : GoodIn wsX6_as wsX6_its := goodIn_r _ [19, 6, 23, 24, 25, 26, 27, 28, 29, 30, 31, 32, 33, 34, 35, 36, 37, 38, 39, 40, 41, 42] (by decide +kernel) (by decide +kernel)
set_option maxRecDepth 20000 in
theorem gX6_as_X6_its : GoodIn wsX6_as (wsV RX6 115 RX6 yX6_its wsX6_its) := goodIn_app (goodIn_of _ (by decide +kernel)) ggX6_as_X6_its
set_option maxRecDepth 20000 in
theorem ggX6_as_X6_above : GoodIn wsX6_as wsX6_above := goodIn_r _ [22] (by decide +kernel) (by decide +kernel)
set_option maxRecDepth 20000 in
theorem gX6_as_X6_above : GoodIn wsX6_as (va_wsS RX6 157 yX6_above wsX6_above) := goodIn_app (goodIn_of _ (by decide +kernel)) ggX6_as_X6_above
theorem dX6_as_0 : decode cX6_as 0 = .ok (.aload_n 0, 1) := by decide +kernel
theorem dX6_as_1 : decode cX6_as 1 = .ok (.iload_n 1, 1) := by decide +kernel
theorem dX6_as_2 : decode cX6_as 2 = .ok (.invokevirtual 154, 3) := by decide +kernel
theorem dX6_as_5 : decode cX6_as 5 = .ok (.ifCond .eq 13, 3) := by decide +kernel
theorem dX6_as_8 : decode cX6_as 8 = .ok (.iload_n 2, 1) := by decide +kernel
theorem dX6_as_9 : decode cX6_as 9 = .ok (.iconst 0, 1) := by decide +kernel
theorem dX6_as_10 : decode cX6_as 10 = .ok (.bipush 6, 2) := by decide +kernel
theorem dX6_as_12 : decode cX6_as 12 = .ok (.invokestatic 51, 3) := by decide +kernel
theorem dX6_as_15 : decode cX6_as 15 = .ok (.ifCond .ne 9, 3) := by decide +kernel
theorem dX6_as_18 : decode cX6_as 18 = .ok (.aload_n 0, 1) := by decide +kernel
theorem dX6_as_19 : decode cX6_as 19 = .ok (.iconst 1, 1) := by decide +kernel
theorem dX6_as_20 : decode cX6_as 20 = .ok (.invokevirtual 55, 3) := by decide +kernel
theorem dX6_as_23 : decode cX6_as 23 = .ok (.ireturn, 1) := by decide +kernel
theorem dX6_as_24 : decode cX6_as 24 = .ok (.aload_n 0, 1) := by decide +kernel
theorem dX6_as_25 : decode cX6_as 25 = .ok (.iload_n 1, 1) := by decide +kernel
theorem dX6_as_26 : decode cX6_as 26 = .ok (.iconst 0, 1) := by decide +kernel
theorem dX6_as_27 : decode cX6_as 27 = .ok (.invokevirtual 115, 3) := by decide +kernel
theorem dX6_as_30 : decode cX6_as 30 = .ok (.istore_n 3, 1) := by decide +kernel
theorem dX6_as_31 : decode cX6_as 31 = .ok (.iload_n 3, 1) := by decide +kernel
theorem dX6_as_32 : decode cX6_as 32 = .ok (.iload_n 2, 1) := by decide +kernel
theorem dX6_as_33 : decode cX6_as 33 = .ok (.if_icmp .eq 15, 3) := by decide +kernel
theorem dX6_as_36 : decode cX6_as 36 = .ok (.iload_n 3, 1) := by decide +kernel
theorem dX6_as_37 : decode cX6_as 37 = .ok (.ifCond .eq 11, 3) := by decide +kernel
theorem dX6_as_40 : decode cX6_as 40 = .ok (.iload_n 3, 1) := by decide +kernel
theorem dX6_as_41 : decode cX6_as 41 = .ok (.invokestatic 157, 3) := by decide +kernel
theorem dX6_as_44 : decode cX6_as 44 = .ok (.istore_n 3, 1) := by decide +kernel
theorem dX6_as_45 : decode cX6_as 45 = .ok (.goto (-14), 3) := by decide +kernel
theorem dX6_as_48 : decode cX6_as 48 = .ok (.iload_n 3, 1) := by decide +kernel
theorem dX6_as_49 : decode cX6_as 49 = .ok (.iload_n 2, 1) := by decide +kernel
theorem dX6_as_50 : decode cX6_as 50 = .ok (.if_icmp .ne 12, 3) := by decide +kernel
theorem dX6_as_53 : decode cX6_as 53 = .ok (.aload_n 0, 1) := by decide +kernel
theorem dX6_as_54 : decode cX6_as 54 = .ok (.iload_n 1, 1) := by decide +kernel
theorem dX6_as_55 : decode cX6_as 55 = .ok (.iconst 1, 1) := by decide +kernel
theorem dX6_as_56 : decode cX6_as 56 = .ok (.invokevirtual 115, 3) := by decide +kernel
theorem dX6_as_59 : decode cX6_as 59 = .ok (.goto 8, 3) := by decide +kernel
theorem dX6_as_62 : decode cX6_as 62 = .ok (.aload_n 0, 1) := by decide +kernel
theorem dX6_as_63 : decode cX6_as 63 = .ok (.iconst 5, 1) := by decide +kernel
theorem dX6_as_64 : decode cX6_as 64 = .ok (.invokevirtual 55, 3) := by decide +kernel
theorem dX6_as_67 : decode cX6_as 67 = .ok (.ireturn, 1) := by decide +kernel
set_option maxRecDepth 20000 in
theorem ggX6_carry_X6_isClimber : GoodIn wsX6_carry wsX6_isClimber := goodIn_r _ [5, 6, 7, 8, 4, 9, 24, 25, 26, 27, 28, 29, 30, 31, 32, 33, 34, 35, 36, 37, 38, 39, 40, 41, 42, 43] (by decide +kernel) (by decide +kernel)
set_option maxRecDepth 20000 in
theorem gX6_carry_X6_isClimber : GoodIn wsX6_carry (wsV RX6 154 RX6 yX6_isClimber wsX6_isClimber) := goodIn_app (goodIn_of _ (by decide +kernel)) ggX6_carry_X6_isClimber
set_option maxRecDepth 20000 in
theorem ggX6_carry_X6_isStep : GoodIn wsX6_carry wsX6_isStep := goodIn_r _ [13, 6, 7, 8, 4, 9, 24, 25, 26, 27, 28, 29, 30, 31, 32, 33, 34, 35, 36, 37, 38, 39, 40, 41, 42, 43] (by decide +kernel) (by decide +kernel)
set_option maxRecDepth 20000 in
theorem gX6_carry_X6_isStep : GoodIn wsX6_carry (wsV RX6 142 RX6 yX6_isStep wsX6_isStep) := goodIn_app (goodIn_of _ (by decide +kernel)) ggX6_carry_X6_isStep
set_option maxRecDepth 20000 in
theorem ggX6_carry_X6_change1 : GoodIn wsX6_carry wsX6_change1 := goodIn_r _ [17, 6, 24, 25, 26, 27, 28, 29, 30, 31, 32, 33, 34, 35, 36, 37, 38, 39, 40, 41, 42, 43] (by decide +kernel) (by decide +kernel)
set_option maxRecDepth 20000 in
theorem gX6_carry_X6_change1 : GoodIn wsX6_carry (wsV RX6 145 RX6 yX6_change1 wsX6_change1) := goodIn_app (goodIn_of _ (by decide +kernel)) ggX6_carry_X6_change1
set_option maxRecDepth 20000 in
theorem ggX6_carry_X6_error : GoodIn wsX6_carry wsX6_error := goodIn_r _ [21, 22, 23, 24, 25, 26, 27, 28, 29, 30, 31, 32, 33, 34, 35, 36, 37, 38, 39, 40, 41, 42, 43] (by decide +kernel) (by decide +kernel)
set_option maxRecDepth 20000 in
theorem gX6_carry_X6_error : GoodIn wsX6_carry (wsV RX6 55 RX6 yX6_error wsX6_error) := goodIn_app (goodIn_of _ (by decide +kernel)) ggX6_carry_X6_error
theorem dX6_carry_0 : decode cX6_carry 0 = .ok (.aload_n 0, 1) := by decide +kernel
theorem dX6_carry_1 : decode cX6_carry 1 = .ok (.iload_n 1, 1) := by decide +kernel
theorem dX6_carry_2 : decode cX6_carry 2 = .ok (.invokevirtual 154, 3) := by decide +kernel
theorem dX6_carry_5 : decode cX6_carry 5 = .ok (.ifCond .eq 27, 3) := by decide +kernel
theorem dX6_carry_8 : decode cX6_carry 8 = .ok (.aload_n 0, 1) := by decide +kernel
theorem dX6_carry_9 : decode cX6_carry 9 = .ok (.iload_n 2, 1) := by decide +kernel
theorem dX6_carry_10 : decode cX6_carry 10 = .ok (.invokevirtual 142, 3) := by decide +kernel
theorem dX6_carry_13 : decode cX6_carry 13 = .ok (.ifCond .eq 19, 3) := by decide +kernel
theorem dX6_carry_16 : decode cX6_carry 16 = .ok (.aload_n 0, 1) := by decide +kernel
theorem dX6_carry_17 : decode cX6_carry 17 = .ok (.bipush 8, 2) := by decide +kernel
theorem dX6_carry_19 : decode cX6_carry 19 = .ok (.iconst 4, 1) := by decide +kernel
theorem dX6_carry_20 : decode cX6_carry 20 = .ok (.iload_n 1, 1) := by decide +kernel
theorem dX6_carry_21 : decode cX6_carry 21 = .ok (.imul, 1) := by decide +kernel
theorem dX6_carry_22 : decode cX6_carry 22 = .ok (.iadd, 1) := by decide +kernel
theorem dX6_carry_23 : decode cX6_carry 23 = .ok (.iconst 2, 1) := by decide +kernel
theorem dX6_carry_24 : decode cX6_carry 24 = .ok (.iadd, 1) := by decide +kernel
theorem dX6_carry_25 : decode cX6_carry 25 = .ok (.iload_n 2, 1) := by decide +kernel
theorem dX6_carry_26 : decode cX6_carry 26 = .ok (.invokevirtual 145, 3) := by decide +kernel
theorem dX6_carry_29 : decode cX6_carry 29 = .ok (.goto 8, 3) := by decide +kernel
theorem dX6_carry_32 : decode cX6_carry 32 = .ok (.aload_n 0, 1) := by decide +kernel
theorem dX6_carry_33 : decode cX6_carry 33 = .ok (.iconst 1, 1) := by decide +kernel
theorem dX6_carry_34 : decode cX6_carry 34 = .ok (.invokevirtual 55, 3) := by decide +kernel
theorem dX6_carry_37 : decode cX6_carry 37 = .ok (.ireturn, 1) := by decide +kernel
set_option maxRecDepth 20000 in
theorem ggX6_height_X6_isClimber : GoodIn wsX6_height wsX6_isClimber := goodIn_r _ [5, 6, 7, 8, 4, 9, 20, 21, 22, 23, 24, 25, 26, 27, 28, 29, 30, 31, 32, 33, 34, 35, 36, 37, 38, 39] (by decide +kernel) (by decide +kernel)
set_option maxRecDepth 20000 in
theorem gX6_height_X6_isClimber : GoodIn wsX6_height (wsV RX6 154 RX6 yX6_isClimber wsX6_isClimber) := goodIn_app (goodIn_of _ (by decide +kernel)) ggX6_height_X6_isClimber
set_option maxRecDepth 20000 in
theorem ggX6_height_X6_in : GoodIn wsX6_height wsX6_in := goodIn_r _ [9] (by decide +kernel) (by decide +kernel)
set_option maxRecDepth 20000 in
theorem gX6_height_X6_in : GoodIn wsX6_height (va_wsS RX6 51 yX6_in wsX6_in) := goodIn_app (goodIn_of _ (by decide +kernel)) ggX6_height_X6_in
set_option maxRecDepth 20000 in
theorem ggX6_height_X6_change1 : GoodIn wsX6_height wsX6_change1 := goodIn_r _ [13, 6, 20, 21, 22, 23, 24, 25, 26, 27, 28, 29, 30, 31, 32, 33, 34, 35, 36, 37, 38, 39] (by decide +kernel) (by decide +kernel)
set_option maxRecDepth 20000 in
theorem gX6_height_X6_change1 : GoodIn wsX6_height (wsV RX6 145 RX6 yX6_change1 wsX6_change1) := goodIn_app (goodIn_of _ (by decide +kernel)) ggX6_height_X6_change1
set_option maxRecDepth 20000 in
theorem ggX6_height_X6_error : GoodIn wsX6_height wsX6_error := goodIn_r _ [17, 18, 19, 20, 21, 22, 23, 24, 25, 26, 27, 28, 29, 30, 31, 32, 33, 34, 35, 36, 37, 38, 39] (by decide +kernel) (by decide +kernel)
set_option maxRecDepth 20000 in
theorem gX6_height_X6_error : GoodIn wsX6_height (wsV RX6 55 RX6 yX6_error wsX6_error) := goodIn_app (goodIn_of _ (by decide +kernel)) ggX6_height_X6_error
theorem dX6_height_0 : decode cX6_height 0 = .ok (.aload_n 0, 1) := by decide +kernel
theorem dX6_height_1 : decode cX6_height 1 = .ok (.iload_n 1, 1) := by decide +kernel
theorem dX6_height_2 : decode cX6_height 2 = .ok (.invokevirtual 154, 3) := by decide +kernel
theorem dX6_height_5 : decode cX6_height 5 = .ok (.ifCond .eq 32, 3) := by decide +kernel
theorem dX6_height_8 : decode cX6_height 8 = .ok (.iload_n 2, 1) := by decide +kernel
theorem dX6_height_9 : decode cX6_height 9 = .ok (.sipush (-9999), 3) := by decide +kernel
theorem dX6_height_12 : decode cX6_height 12 = .ok (.sipush 9999, 3) := by decide +kernel
theorem dX6_height_15 : decode cX6_height 15 = .ok (.invokestatic 51, 3) := by decide +kernel
theorem dX6_height_18 : decode cX6_height 18 = .ok (.ifCond .eq 19, 3) := by decide +kernel
theorem dX6_height_21 : decode cX6_height 21 = .ok (.aload_n 0, 1) := by decide +kernel
theorem dX6_height_22 : decode cX6_height 22 = .ok (.bipush 8, 2) := by decide +kernel
theorem dX6_height_24 : decode cX6_height 24 = .ok (.iconst 4, 1) := by decide +kernel
theorem dX6_height_25 : decode cX6_height 25 = .ok (.iload_n 1, 1) := by decide +kernel
theorem dX6_height_26 : decode cX6_height 26 = .ok (.imul, 1) := by decide +kernel
theorem dX6_height_27 : decode cX6_height 27 = .ok (.iadd, 1) := by decide +kernel
theorem dX6_height_28 : decode cX6_height 28 = .ok (.iconst 3, 1) := by decide +kernel
theorem dX6_height_29 : decode cX6_height 29 = .ok (.iadd, 1) := by decide +kernel
theorem dX6_height_30 : decode cX6_height 30 = .ok (.iload_n 2, 1) := by decide +kernel
theorem dX6_height_31 : decode cX6_height 31 = .ok (.invokevirtual 145, 3) := by decide +kernel
theorem dX6_height_34 : decode cX6_height 34 = .ok (.goto 8, 3) := by decide +kernel
theorem dX6_height_37 : decode cX6_height 37 = .ok (.aload_n 0, 1) := by decide +kernel
theorem dX6_height_38 : decode cX6_height 38 = .ok (.iconst 1, 1) := by decide +kernel
theorem dX6_height_39 : decode cX6_height 39 = .ok (.invokevirtual 55, 3) := by decide +kernel
theorem dX6_height_42 : decode cX6_height 42 = .ok (.ireturn, 1) := by decide +kernel
set_option maxRecDepth 20000 in
theorem ggX6_law_X6_in : GoodIn wsX6_law wsX6_in := goodIn_r _ [4] (by decide +kernel) (by decide +kernel)
set_option maxRecDepth 20000 in
theorem gX6_law_X6_in : GoodIn wsX6_law (va_wsS RX6 51 yX6_in wsX6_in) := goodIn_app (goodIn_of _ (by decide +kernel)) ggX6_law_X6_in
set_option maxRecDepth 20000 in
theorem ggX6_law_X6_error : GoodIn wsX6_law wsX6_error := goodIn_r _ [8, 9, 10, 36, 37, 38, 39, 40, 41, 42, 43, 44, 45, 46, 47, 48, 49, 50, 51, 52, 53, 54, 55] (by decide +kernel) (by decide +kernel)
set_option maxRecDepth 20000 in
theorem gX6_law_X6_error : GoodIn wsX6_law (wsV RX6 55 RX6 yX6_error wsX6_error) := goodIn_app (goodIn_of _ (by decide +kernel)) ggX6_law_X6_error
set_option maxRecDepth 20000 in
theorem ggX6_law_X6_countedTold : GoodIn wsX6_law wsX6_countedTold := goodIn_r _ [14, 15, 16, 17, 18, 3, 19, 20, 21, 22, 23, 24, 25, 26, 27, 28, 29, 30, 31, 36, 37, 38, 39, 40, 41, 42, 43, 44, 45, 46, 47, 48, 49, 50, 51, 52, 53, 54, 55] (by decide +kernel) (by decide +kernel)
set_option maxRecDepth 20000 in
theorem gX6_law_X6_countedTold : GoodIn wsX6_law (wsV RX6 125 RX6 yX6_countedTold wsX6_countedTold) := goodIn_app (goodIn_of _ (by decide +kernel)) ggX6_law_X6_countedTold
set_option maxRecDepth 20000 in
theorem ggX6_law_X6_worthTold : GoodIn wsX6_law wsX6_worthTold := goodIn_r _ [35, 15, 16, 17, 18, 3, 19, 20, 21, 22, 23, 24, 25, 26, 27, 28, 29, 30, 31, 36, 37, 38, 39, 40, 41, 42, 43, 44, 45, 46, 47, 48, 49, 50, 51, 52, 53, 54, 55] (by decide +kernel) (by decide +kernel)
set_option maxRecDepth 20000 in
theorem gX6_law_X6_worthTold : GoodIn wsX6_law (wsV RX6 160 RX6 yX6_worthTold wsX6_worthTold) := goodIn_app (goodIn_of _ (by decide +kernel)) ggX6_law_X6_worthTold
theorem dX6_law_0 : decode cX6_law 0 = .ok (.iload_n 1, 1) := by decide +kernel
theorem dX6_law_1 : decode cX6_law 1 = .ok (.iconst 0, 1) := by decide +kernel
theorem dX6_law_2 : decode cX6_law 2 = .ok (.iconst 1, 1) := by decide +kernel
theorem dX6_law_3 : decode cX6_law 3 = .ok (.invokestatic 51, 3) := by decide +kernel
theorem dX6_law_6 : decode cX6_law 6 = .ok (.ifCond .ne 9, 3) := by decide +kernel
theorem dX6_law_9 : decode cX6_law 9 = .ok (.aload_n 0, 1) := by decide +kernel
theorem dX6_law_10 : decode cX6_law 10 = .ok (.iconst 1, 1) := by decide +kernel
theorem dX6_law_11 : decode cX6_law 11 = .ok (.invokevirtual 55, 3) := by decide +kernel
theorem dX6_law_14 : decode cX6_law 14 = .ok (.ireturn, 1) := by decide +kernel
theorem dX6_law_15 : decode cX6_law 15 = .ok (.iload_n 1, 1) := by decide +kernel
theorem dX6_law_16 : decode cX6_law 16 = .ok (.ifCond .ne 14, 3) := by decide +kernel
theorem dX6_law_19 : decode cX6_law 19 = .ok (.aload_n 0, 1) := by decide +kernel
theorem dX6_law_20 : decode cX6_law 20 = .ok (.iload_n 2, 1) := by decide +kernel
theorem dX6_law_21 : decode cX6_law 21 = .ok (.iload_n 3, 1) := by decide +kernel
theorem dX6_law_22 : decode cX6_law 22 = .ok (.iload 4, 2) := by decide +kernel
theorem dX6_law_24 : decode cX6_law 24 = .ok (.invokevirtual 125, 3) := by decide +kernel
theorem dX6_law_27 : decode cX6_law 27 = .ok (.goto 11, 3) := by decide +kernel
theorem dX6_law_30 : decode cX6_law 30 = .ok (.aload_n 0, 1) := by decide +kernel
theorem dX6_law_31 : decode cX6_law 31 = .ok (.iload_n 2, 1) := by decide +kernel
theorem dX6_law_32 : decode cX6_law 32 = .ok (.iload_n 3, 1) := by decide +kernel
theorem dX6_law_33 : decode cX6_law 33 = .ok (.iload 4, 2) := by decide +kernel
theorem dX6_law_35 : decode cX6_law 35 = .ok (.invokevirtual 160, 3) := by decide +kernel
theorem dX6_law_38 : decode cX6_law 38 = .ok (.ireturn, 1) := by decide +kernel
set_option maxRecDepth 20000 in
theorem ggX6_whyNot_X6_in : GoodIn wsX6_whyNot wsX6_in := goodIn_r _ [5] (by decide +kernel) (by decide +kernel)
set_option maxRecDepth 20000 in
theorem gX6_whyNot_X6_in : GoodIn wsX6_whyNot (va_wsS RX6 51 yX6_in wsX6_in) := goodIn_app (goodIn_of _ (by decide +kernel)) ggX6_whyNot_X6_in
theorem dX6_whyNot_0 : decode cX6_whyNot 0 = .ok (.iload_n 1, 1) := by decide +kernel
theorem dX6_whyNot_1 : decode cX6_whyNot 1 = .ok (.iconst 1, 1) := by decide +kernel
theorem dX6_whyNot_2 : decode cX6_whyNot 2 = .ok (.iload_n 2, 1) := by decide +kernel
theorem dX6_whyNot_3 : decode cX6_whyNot 3 = .ok (.invokestatic 51, 3) := by decide +kernel
theorem dX6_whyNot_6 : decode cX6_whyNot 6 = .ok (.ifCond .ne 7, 3) := by decide +kernel
theorem dX6_whyNot_9 : decode cX6_whyNot 9 = .ok (.iconst 1, 1) := by decide +kernel
theorem dX6_whyNot_10 : decode cX6_whyNot 10 = .ok (.goto 22, 3) := by decide +kernel
theorem dX6_whyNot_13 : decode cX6_whyNot 13 = .ok (.aload_n 0, 1) := by decide +kernel
theorem dX6_whyNot_14 : decode cX6_whyNot 14 = .ok (.getfield 7, 3) := by decide +kernel
theorem dX6_whyNot_17 : decode cX6_whyNot 17 = .ok (.iconst 0, 1) := by decide +kernel
theorem dX6_whyNot_18 : decode cX6_whyNot 18 = .ok (.iaload, 1) := by decide +kernel
theorem dX6_whyNot_19 : decode cX6_whyNot 19 = .ok (.iload_n 1, 1) := by decide +kernel
theorem dX6_whyNot_20 : decode cX6_whyNot 20 = .ok (.iadd, 1) := by decide +kernel
theorem dX6_whyNot_21 : decode cX6_whyNot 21 = .ok (.sipush 9999, 3) := by decide +kernel
theorem dX6_whyNot_24 : decode cX6_whyNot 24 = .ok (.if_icmp .le 7, 3) := by decide +kernel
theorem dX6_whyNot_27 : decode cX6_whyNot 27 = .ok (.iconst 3, 1) := by decide +kernel
theorem dX6_whyNot_28 : decode cX6_whyNot 28 = .ok (.goto 4, 3) := by decide +kernel
theorem dX6_whyNot_31 : decode cX6_whyNot 31 = .ok (.iconst 0, 1) := by decide +kernel
theorem dX6_whyNot_32 : decode cX6_whyNot 32 = .ok (.ireturn, 1) := by decide +kernel
set_option maxRecDepth 20000 in
theorem ggX6_minutes_X6_whyNot : GoodIn wsX6_minutes wsX6_whyNot := goodIn_r _ [5, 6, 7, 8, 4, 9, 64, 65, 66, 67, 68, 69, 70, 71, 72, 73, 74, 75, 76, 77, 78, 79, 80, 81, 82, 83] (by decide +kernel) (by decide +kernel)
set_option maxRecDepth 20000 in
theorem gX6_minutes_X6_whyNot : GoodIn wsX6_minutes (wsV RX6 163 RX6 yX6_whyNot wsX6_whyNot) := goodIn_app (goodIn_of _ (by decide +kernel)) ggX6_minutes_X6_whyNot
set_option maxRecDepth 20000 in
theorem ggX6_minutes_X6_error : GoodIn wsX6_minutes wsX6_error := goodIn_r _ [13, 14, 15, 64, 65, 66, 67, 68, 69, 70, 71, 72, 73, 74, 75, 76, 77, 78, 79, 80, 81, 82, 83] (by decide +kernel) (by decide +kernel)
set_option maxRecDepth 20000 in
theorem gX6_minutes_X6_error : GoodIn wsX6_minutes (wsV RX6 55 RX6 yX6_error wsX6_error) := goodIn_app (goodIn_of _ (by decide +kernel)) ggX6_minutes_X6_error
set_option maxRecDepth 20000 in
theorem ggX6_minutes_X6_minute : GoodIn wsX6_minutes wsX6_minute := goodIn_r _ [19, 6, 20, 21, 22, 4, 23, 24, 25, 26, 27, 28, 29, 30, 31, 32, 33, 34, 35, 36, 37, 38, 39, 40, 41, 42, 43, 44, 45, 46, 47, 48, 49, 50, 51, 52, 53, 54, 55, 56, 57, 58, 59, 64, 65, 66, 67, 68, 69, 70, 71, 72, 73, 74, 75, 76, 77, 78, 79, 80, 81, 82, 83] (by decide +kernel) (by decide +kernel)
set_option maxRecDepth 20000 in
theorem gX6_minutes_X6_minute : GoodIn wsX6_minutes (wsV RX6 166 RX6 yX6_minute wsX6_minute) := goodIn_app (goodIn_of _ (by decide +kernel)) ggX6_minutes_X6_minute
set_option maxRecDepth 20000 in
theorem ggX6_minutes_X6_pairs : GoodIn wsX6_minutes wsX6_pairs := goodIn_r _ [63, 6, 28, 29, 30, 4, 31, 64, 65, 66, 67, 68, 69, 70, 71, 72, 73, 74, 75, 76, 77, 78, 79, 80, 81, 82, 83] (by decide +kernel) (by decide +kernel)
set_option maxRecDepth 20000 in
theorem gX6_minutes_X6_pairs : GoodIn wsX6_minutes (wsV RX6 169 RX6 yX6_pairs wsX6_pairs) := goodIn_app (goodIn_of _ (by decide +kernel)) ggX6_minutes_X6_pairs
theorem dX6_minutes_0 : decode cX6_minutes 0 = .ok (.aload_n 0, 1) := by decide +kernel
theorem dX6_minutes_1 : decode cX6_minutes 1 = .ok (.iload_n 1, 1) := by decide +kernel
theorem dX6_minutes_2 : decode cX6_minutes 2 = .ok (.sipush 200, 3) := by decide +kernel
theorem dX6_minutes_5 : decode cX6_minutes 5 = .ok (.invokevirtual 163, 3) := by decide +kernel
theorem dX6_minutes_8 : decode cX6_minutes 8 = .ok (.istore_n 2, 1) := by decide +kernel
theorem dX6_minutes_9 : decode cX6_minutes 9 = .ok (.iload_n 2, 1) := by decide +kernel
theorem dX6_minutes_10 : decode cX6_minutes 10 = .ok (.ifCond .eq 9, 3) := by decide +kernel
theorem dX6_minutes_13 : decode cX6_minutes 13 = .ok (.aload_n 0, 1) := by decide +kernel
theorem dX6_minutes_14 : decode cX6_minutes 14 = .ok (.iload_n 2, 1) := by decide +kernel
theorem dX6_minutes_15 : decode cX6_minutes 15 = .ok (.invokevirtual 55, 3) := by decide +kernel
theorem dX6_minutes_18 : decode cX6_minutes 18 = .ok (.ireturn, 1) := by decide +kernel
theorem dX6_minutes_19 : decode cX6_minutes 19 = .ok (.iconst 0, 1) := by decide +kernel
theorem dX6_minutes_20 : decode cX6_minutes 20 = .ok (.istore_n 3, 1) := by decide +kernel
theorem dX6_minutes_21 : decode cX6_minutes 21 = .ok (.iload_n 3, 1) := by decide +kernel
theorem dX6_minutes_22 : decode cX6_minutes 22 = .ok (.iload_n 1, 1) := by decide +kernel
theorem dX6_minutes_23 : decode cX6_minutes 23 = .ok (.if_icmp .ge 13, 3) := by decide +kernel
theorem dX6_minutes_26 : decode cX6_minutes 26 = .ok (.aload_n 0, 1) := by decide +kernel
theorem dX6_minutes_27 : decode cX6_minutes 27 = .ok (.invokevirtual 166, 3) := by decide +kernel
theorem dX6_minutes_30 : decode cX6_minutes 30 = .ok (.iinc 3 1, 3) := by decide +kernel
theorem dX6_minutes_33 : decode cX6_minutes 33 = .ok (.goto (-12), 3) := by decide +kernel
theorem dX6_minutes_36 : decode cX6_minutes 36 = .ok (.aload_n 0, 1) := by decide +kernel
theorem dX6_minutes_37 : decode cX6_minutes 37 = .ok (.invokevirtual 169, 3) := by decide +kernel
theorem dX6_minutes_40 : decode cX6_minutes 40 = .ok (.ireturn, 1) := by decide +kernel
set_option maxRecDepth 20000 in
theorem ggX6_loose_X6_whyNot : GoodIn wsX6_loose wsX6_whyNot := goodIn_r _ [6, 1, 7, 8, 5, 9, 69, 70, 71, 72, 73, 74, 75, 76, 77, 78, 79, 80, 81, 82, 83, 84, 85, 86, 87, 88] (by decide +kernel) (by decide +kernel)
set_option maxRecDepth 20000 in
theorem gX6_loose_X6_whyNot : GoodIn wsX6_loose (wsV RX6 163 RX6 yX6_whyNot wsX6_whyNot) := goodIn_app (goodIn_of _ (by decide +kernel)) ggX6_loose_X6_whyNot
set_option maxRecDepth 20000 in
theorem ggX6_loose_X6_error : GoodIn wsX6_loose wsX6_error := goodIn_r _ [13, 14, 15, 69, 70, 71, 72, 73, 74, 75, 76, 77, 78, 79, 80, 81, 82, 83, 84, 85, 86, 87, 88] (by decide +kernel) (by decide +kernel)
set_option maxRecDepth 20000 in
theorem gX6_loose_X6_error : GoodIn wsX6_loose (wsV RX6 55 RX6 yX6_error wsX6_error) := goodIn_app (goodIn_of _ (by decide +kernel)) ggX6_loose_X6_error
set_option maxRecDepth 20000 in
theorem ggX6_loose_X6_draw : GoodIn wsX6_loose wsX6_draw := goodIn_r _ [19, 1, 20, 69, 70, 71, 72, 73, 74, 75, 76, 77, 78, 79, 80, 81, 82, 83, 84, 85, 86, 87, 88] (by decide +kernel) (by decide +kernel)
set_option maxRecDepth 20000 in
theorem gX6_loose_X6_draw : GoodIn wsX6_loose (wsV RX6 172 RX6 yX6_draw wsX6_draw) := goodIn_app (goodIn_of _ (by decide +kernel)) ggX6_loose_X6_draw
set_option maxRecDepth 20000 in
theorem ggX6_loose_X6_lays1 : GoodIn wsX6_loose wsX6_lays1 := goodIn_r _ [24, 1, 69, 70, 71, 72, 73, 74, 75, 76, 77, 78, 79, 80, 81, 82, 83, 84, 85, 86, 87, 88] (by decide +kernel) (by decide +kernel)
set_option maxRecDepth 20000 in
theorem gX6_loose_X6_lays1 : GoodIn wsX6_loose (wsV RX6 134 RX6 yX6_lays1 wsX6_lays1) := goodIn_app (goodIn_of _ (by decide +kernel)) ggX6_loose_X6_lays1
set_option maxRecDepth 20000 in
theorem ggX6_loose_X6_minute : GoodIn wsX6_loose wsX6_minute := goodIn_r _ [28, 1, 29, 30, 31, 5, 32, 33, 34, 35, 36, 37, 38, 39, 40, 41, 42, 43, 44, 45, 46, 47, 48, 49, 50, 51, 52, 53, 54, 55, 56, 57, 58, 59, 60, 61, 62, 63, 64, 21, 22, 23, 24, 69, 70, 71, 72, 73, 74, 75, 76, 77, 78, 79, 80, 81, 82, 83, 84, 85, 86, 87, 88] (by decide +kernel) (by decide +kernel)
set_option maxRecDepth 20000 in
theorem gX6_loose_X6_minute : GoodIn wsX6_loose (wsV RX6 166 RX6 yX6_minute wsX6_minute) := goodIn_app (goodIn_of _ (by decide +kernel)) ggX6_loose_X6_minute
set_option maxRecDepth 20000 in
theorem ggX6_loose_X6_pairs : GoodIn wsX6_loose wsX6_pairs := goodIn_r _ [68, 1, 37, 38, 39, 5, 40, 69, 70, 71, 72, 73, 74, 75, 76, 77, 78, 79, 80, 81, 82, 83, 84, 85, 86, 87, 88] (by decide +kernel) (by decide +kernel)
set_option maxRecDepth 20000 in
theorem gX6_loose_X6_pairs : GoodIn wsX6_loose (wsV RX6 169 RX6 yX6_pairs wsX6_pairs) := goodIn_app (goodIn_of _ (by decide +kernel)) ggX6_loose_X6_pairs
theorem dX6_loose_0 : decode cX6_loose 0 = .ok (.aload_n 0, 1) := by decide +kernel
theorem dX6_loose_1 : decode cX6_loose 1 = .ok (.iload_n 1, 1) := by decide +kernel
theorem dX6_loose_2 : decode cX6_loose 2 = .ok (.bipush 40, 2) := by decide +kernel
theorem dX6_loose_4 : decode cX6_loose 4 = .ok (.invokevirtual 163, 3) := by decide +kernel
theorem dX6_loose_7 : decode cX6_loose 7 = .ok (.istore_n 2, 1) := by decide +kernel
theorem dX6_loose_8 : decode cX6_loose 8 = .ok (.iload_n 2, 1) := by decide +kernel
theorem dX6_loose_9 : decode cX6_loose 9 = .ok (.ifCond .eq 9, 3) := by decide +kernel
theorem dX6_loose_12 : decode cX6_loose 12 = .ok (.aload_n 0, 1) := by decide +kernel
theorem dX6_loose_13 : decode cX6_loose 13 = .ok (.iload_n 2, 1) := by decide +kernel
theorem dX6_loose_14 : decode cX6_loose 14 = .ok (.invokevirtual 55, 3) := by decide +kernel
theorem dX6_loose_17 : decode cX6_loose 17 = .ok (.ireturn, 1) := by decide +kernel
theorem dX6_loose_18 : decode cX6_loose 18 = .ok (.iconst 0, 1) := by decide +kernel
theorem dX6_loose_19 : decode cX6_loose 19 = .ok (.istore_n 3, 1) := by decide +kernel
theorem dX6_loose_20 : decode cX6_loose 20 = .ok (.iload_n 3, 1) := by decide +kernel
theorem dX6_loose_21 : decode cX6_loose 21 = .ok (.iload_n 1, 1) := by decide +kernel
theorem dX6_loose_22 : decode cX6_loose 22 = .ok (.if_icmp .ge 55, 3) := by decide +kernel
theorem dX6_loose_25 : decode cX6_loose 25 = .ok (.aload_n 0, 1) := by decide +kernel
theorem dX6_loose_26 : decode cX6_loose 26 = .ok (.getfield 7, 3) := by decide +kernel
theorem dX6_loose_29 : decode cX6_loose 29 = .ok (.bipush 6, 2) := by decide +kernel
theorem dX6_loose_31 : decode cX6_loose 31 = .ok (.iaload, 1) := by decide +kernel
theorem dX6_loose_32 : decode cX6_loose 32 = .ok (.ifCond .le 35, 3) := by decide +kernel
theorem dX6_loose_35 : decode cX6_loose 35 = .ok (.aload_n 0, 1) := by decide +kernel
theorem dX6_loose_36 : decode cX6_loose 36 = .ok (.invokevirtual 172, 3) := by decide +kernel
theorem dX6_loose_39 : decode cX6_loose 39 = .ok (.aload_n 0, 1) := by decide +kernel
theorem dX6_loose_40 : decode cX6_loose 40 = .ok (.getfield 7, 3) := by decide +kernel
theorem dX6_loose_43 : decode cX6_loose 43 = .ok (.bipush 6, 2) := by decide +kernel
theorem dX6_loose_45 : decode cX6_loose 45 = .ok (.iaload, 1) := by decide +kernel
theorem dX6_loose_46 : decode cX6_loose 46 = .ok (.irem, 1) := by decide +kernel
theorem dX6_loose_47 : decode cX6_loose 47 = .ok (.istore 4, 2) := by decide +kernel
theorem dX6_loose_49 : decode cX6_loose 49 = .ok (.aload_n 0, 1) := by decide +kernel
theorem dX6_loose_50 : decode cX6_loose 50 = .ok (.iload 4, 2) := by decide +kernel
theorem dX6_loose_52 : decode cX6_loose 52 = .ok (.iconst 2, 1) := by decide +kernel
theorem dX6_loose_53 : decode cX6_loose 53 = .ok (.aload_n 0, 1) := by decide +kernel
theorem dX6_loose_54 : decode cX6_loose 54 = .ok (.invokevirtual 172, 3) := by decide +kernel
theorem dX6_loose_57 : decode cX6_loose 57 = .ok (.aload_n 0, 1) := by decide +kernel
theorem dX6_loose_58 : decode cX6_loose 58 = .ok (.getfield 7, 3) := by decide +kernel
theorem dX6_loose_61 : decode cX6_loose 61 = .ok (.iconst 1, 1) := by decide +kernel
theorem dX6_loose_62 : decode cX6_loose 62 = .ok (.iaload, 1) := by decide +kernel
theorem dX6_loose_63 : decode cX6_loose 63 = .ok (.irem, 1) := by decide +kernel
theorem dX6_loose_64 : decode cX6_loose 64 = .ok (.invokevirtual 134, 3) := by decide +kernel
theorem dX6_loose_67 : decode cX6_loose 67 = .ok (.aload_n 0, 1) := by decide +kernel
theorem dX6_loose_68 : decode cX6_loose 68 = .ok (.invokevirtual 166, 3) := by decide +kernel
theorem dX6_loose_71 : decode cX6_loose 71 = .ok (.iinc 3 1, 3) := by decide +kernel
theorem dX6_loose_74 : decode cX6_loose 74 = .ok (.goto (-54), 3) := by decide +kernel
theorem dX6_loose_77 : decode cX6_loose 77 = .ok (.aload_n 0, 1) := by decide +kernel
theorem dX6_loose_78 : decode cX6_loose 78 = .ok (.invokevirtual 169, 3) := by decide +kernel
theorem dX6_loose_81 : decode cX6_loose 81 = .ok (.ireturn, 1) := by decide +kernel
set_option maxRecDepth 20000 in
theorem ggX6_seed_X6_change1 : GoodIn wsX6_seed wsX6_change1 := goodIn_r _ [5, 6, 7, 8, 9, 10, 11, 12, 13, 14, 15, 16, 17, 18, 19, 20, 21, 22, 23, 24, 25, 26] (by decide +kernel) (by decide +kernel)
set_option maxRecDepth 20000 in
theorem gX6_seed_X6_change1 : GoodIn wsX6_seed (wsV RX6 145 RX6 yX6_change1 wsX6_change1) := goodIn_app (goodIn_of _ (by decide +kernel)) ggX6_seed_X6_change1
theorem dX6_seed_0 : decode cX6_seed 0 = .ok (.aload_n 0, 1) := by decide +kernel
theorem dX6_seed_1 : decode cX6_seed 1 = .ok (.iconst 3, 1) := by decide +kernel
theorem dX6_seed_2 : decode cX6_seed 2 = .ok (.iload_n 1, 1) := by decide +kernel
theorem dX6_seed_3 : decode cX6_seed 3 = .ok (.invokevirtual 145, 3) := by decide +kernel
theorem dX6_seed_6 : decode cX6_seed 6 = .ok (.ireturn, 1) := by decide +kernel
set_option maxRecDepth 20000 in
theorem ggX6_then_X6_in : GoodIn wsX6_then wsX6_in := goodIn_r _ [4] (by decide +kernel) (by decide +kernel)
set_option maxRecDepth 20000 in
theorem gX6_then_X6_in : GoodIn wsX6_then (va_wsS RX6 51 yX6_in wsX6_in) := goodIn_app (goodIn_of _ (by decide +kernel)) ggX6_then_X6_in
set_option maxRecDepth 20000 in
theorem ggX6_then_X6_isClimber : GoodIn wsX6_then wsX6_isClimber := goodIn_r _ [8, 9, 1, 2, 3, 4, 69, 70, 71, 72, 73, 74, 75, 76, 77, 78, 79, 80, 81, 82, 83, 84, 85, 86, 87, 88] (by decide +kernel) (by decide +kernel)
set_option maxRecDepth 20000 in
theorem gX6_then_X6_isClimber : GoodIn wsX6_then (wsV RX6 154 RX6 yX6_isClimber wsX6_isClimber) := goodIn_app (goodIn_of _ (by decide +kernel)) ggX6_then_X6_isClimber
set_option maxRecDepth 20000 in
theorem ggX6_then_X6_error : GoodIn wsX6_then wsX6_error := goodIn_r _ [13, 14, 15, 69, 70, 71, 72, 73, 74, 75, 76, 77, 78, 79, 80, 81, 82, 83, 84, 85, 86, 87, 88] (by decide +kernel) (by decide +kernel)
set_option maxRecDepth 20000 in
theorem gX6_then_X6_error : GoodIn wsX6_then (wsV RX6 55 RX6 yX6_error wsX6_error) := goodIn_app (goodIn_of _ (by decide +kernel)) ggX6_then_X6_error
set_option maxRecDepth 20000 in
theorem ggX6_then_X6_layDown : GoodIn wsX6_then wsX6_layDown := goodIn_r _ [19, 20, 9, 69, 70, 71, 72, 73, 74, 75, 76, 77, 78, 79, 80, 81, 82, 83, 84, 85, 86, 87, 88] (by decide +kernel) (by decide +kernel)
set_option maxRecDepth 20000 in
theorem gX6_then_X6_layDown : GoodIn wsX6_then (wsV RX6 175 RX6 yX6_layDown wsX6_layDown) := goodIn_app (goodIn_of _ (by decide +kernel)) ggX6_then_X6_layDown
set_option maxRecDepth 20000 in
theorem ggX6_then_X6_minute : GoodIn wsX6_then wsX6_minute := goodIn_r _ [24, 9, 25, 26, 27, 3, 28, 29, 30, 31, 32, 33, 34, 35, 36, 37, 38, 39, 40, 41, 42, 43, 44, 45, 46, 47, 48, 49, 50, 51, 52, 53, 54, 55, 56, 57, 58, 59, 60, 61, 62, 63, 64, 69, 70, 71, 72, 73, 74, 75, 76, 77, 78, 79, 80, 81, 82, 83, 84, 85, 86, 87, 88] (by decide +kernel) (by decide +kernel)
set_option maxRecDepth 20000 in
theorem gX6_then_X6_minute : GoodIn wsX6_then (wsV RX6 166 RX6 yX6_minute wsX6_minute) := goodIn_app (goodIn_of _ (by decide +kernel)) ggX6_then_X6_minute
set_option maxRecDepth 20000 in
theorem ggX6_then_X6_its : GoodIn wsX6_then wsX6_its := goodIn_r _ [36, 9, 69, 70, 71, 72, 73, 74, 75, 76, 77, 78, 79, 80, 81, 82, 83, 84, 85, 86, 87, 88] (by decide +kernel) (by decide +kernel)
set_option maxRecDepth 20000 in
theorem gX6_then_X6_its : GoodIn wsX6_then (wsV RX6 115 RX6 yX6_its wsX6_its) := goodIn_app (goodIn_of _ (by decide +kernel)) ggX6_then_X6_its
set_option maxRecDepth 20000 in
theorem ggX6_then_X6_layBack : GoodIn wsX6_then wsX6_layBack := goodIn_r _ [68, 9, 20, 69, 70, 71, 72, 73, 74, 75, 76, 77, 78, 79, 80, 81, 82, 83, 84, 85, 86, 87, 88] (by decide +kernel) (by decide +kernel)
set_option maxRecDepth 20000 in
theorem gX6_then_X6_layBack : GoodIn wsX6_then (wsV RX6 178 RX6 yX6_layBack wsX6_layBack) := goodIn_app (goodIn_of _ (by decide +kernel)) ggX6_then_X6_layBack
theorem dX6_then_0 : decode cX6_then 0 = .ok (.iload_n 1, 1) := by decide +kernel
theorem dX6_then_1 : decode cX6_then 1 = .ok (.iconst 0, 1) := by decide +kernel
theorem dX6_then_2 : decode cX6_then 2 = .ok (.sipush 200, 3) := by decide +kernel
theorem dX6_then_5 : decode cX6_then 5 = .ok (.invokestatic 51, 3) := by decide +kernel
theorem dX6_then_8 : decode cX6_then 8 = .ok (.ifCond .eq 20, 3) := by decide +kernel
theorem dX6_then_11 : decode cX6_then 11 = .ok (.aload_n 0, 1) := by decide +kernel
theorem dX6_then_12 : decode cX6_then 12 = .ok (.iload_n 2, 1) := by decide +kernel
theorem dX6_then_13 : decode cX6_then 13 = .ok (.invokevirtual 154, 3) := by decide +kernel
theorem dX6_then_16 : decode cX6_then 16 = .ok (.ifCond .eq 12, 3) := by decide +kernel
theorem dX6_then_19 : decode cX6_then 19 = .ok (.iload_n 3, 1) := by decide +kernel
theorem dX6_then_20 : decode cX6_then 20 = .ok (.iconst 0, 1) := by decide +kernel
theorem dX6_then_21 : decode cX6_then 21 = .ok (.iconst 1, 1) := by decide +kernel
theorem dX6_then_22 : decode cX6_then 22 = .ok (.invokestatic 51, 3) := by decide +kernel
theorem dX6_then_25 : decode cX6_then 25 = .ok (.ifCond .ne 9, 3) := by decide +kernel
theorem dX6_then_28 : decode cX6_then 28 = .ok (.aload_n 0, 1) := by decide +kernel
theorem dX6_then_29 : decode cX6_then 29 = .ok (.iconst 1, 1) := by decide +kernel
theorem dX6_then_30 : decode cX6_then 30 = .ok (.invokevirtual 55, 3) := by decide +kernel
theorem dX6_then_33 : decode cX6_then 33 = .ok (.ireturn, 1) := by decide +kernel
theorem dX6_then_34 : decode cX6_then 34 = .ok (.aload_n 0, 1) := by decide +kernel
theorem dX6_then_35 : decode cX6_then 35 = .ok (.invokevirtual 175, 3) := by decide +kernel
theorem dX6_then_38 : decode cX6_then 38 = .ok (.iconst 0, 1) := by decide +kernel
theorem dX6_then_39 : decode cX6_then 39 = .ok (.istore 4, 2) := by decide +kernel
theorem dX6_then_41 : decode cX6_then 41 = .ok (.iload 4, 2) := by decide +kernel
theorem dX6_then_43 : decode cX6_then 43 = .ok (.iload_n 1, 1) := by decide +kernel
theorem dX6_then_44 : decode cX6_then 44 = .ok (.if_icmp .ge 13, 3) := by decide +kernel
theorem dX6_then_47 : decode cX6_then 47 = .ok (.aload_n 0, 1) := by decide +kernel
theorem dX6_then_48 : decode cX6_then 48 = .ok (.invokevirtual 166, 3) := by decide +kernel
theorem dX6_then_51 : decode cX6_then 51 = .ok (.iinc 4 1, 3) := by decide +kernel
theorem dX6_then_54 : decode cX6_then 54 = .ok (.goto (-13), 3) := by decide +kernel
theorem dX6_then_57 : decode cX6_then 57 = .ok (.aload_n 0, 1) := by decide +kernel
theorem dX6_then_58 : decode cX6_then 58 = .ok (.iload_n 2, 1) := by decide +kernel
theorem dX6_then_59 : decode cX6_then 59 = .ok (.iconst 2, 1) := by decide +kernel
theorem dX6_then_60 : decode cX6_then 60 = .ok (.iload_n 3, 1) := by decide +kernel
theorem dX6_then_61 : decode cX6_then 61 = .ok (.iadd, 1) := by decide +kernel
theorem dX6_then_62 : decode cX6_then 62 = .ok (.invokevirtual 115, 3) := by decide +kernel
theorem dX6_then_65 : decode cX6_then 65 = .ok (.istore 4, 2) := by decide +kernel
theorem dX6_then_67 : decode cX6_then 67 = .ok (.aload_n 0, 1) := by decide +kernel
theorem dX6_then_68 : decode cX6_then 68 = .ok (.invokevirtual 178, 3) := by decide +kernel
theorem dX6_then_71 : decode cX6_then 71 = .ok (.iload 4, 2) := by decide +kernel
theorem dX6_then_73 : decode cX6_then 73 = .ok (.ireturn, 1) := by decide +kernel
set_option maxRecDepth 20000 in
theorem ggX6_meets_X6_layDown : GoodIn wsX6_meets wsX6_layDown := goodIn_r _ [5, 6, 7, 56, 57, 58, 59, 60, 61, 62, 63, 64, 65, 66, 67, 68, 69, 70, 71, 72, 73, 74, 75] (by decide +kernel) (by decide +kernel)
set_option maxRecDepth 20000 in
theorem gX6_meets_X6_layDown : GoodIn wsX6_meets (wsV RX6 175 RX6 yX6_layDown wsX6_layDown) := goodIn_app (goodIn_of _ (by decide +kernel)) ggX6_meets_X6_layDown
set_option maxRecDepth 20000 in
theorem ggX6_meets_X6_its : GoodIn wsX6_meets wsX6_its := goodIn_r _ [11, 7, 56, 57, 58, 59, 60, 61, 62, 63, 64, 65, 66, 67, 68, 69, 70, 71, 72, 73, 74, 75] (by decide +kernel) (by decide +kernel)
set_option maxRecDepth 20000 in
theorem gX6_meets_X6_its : GoodIn wsX6_meets (wsV RX6 115 RX6 yX6_its wsX6_its) := goodIn_app (goodIn_of _ (by decide +kernel)) ggX6_meets_X6_its
set_option maxRecDepth 20000 in
theorem ggX6_meets_X6_minute : GoodIn wsX6_meets wsX6_minute := goodIn_r _ [15, 7, 16, 17, 18, 4, 19, 20, 21, 22, 23, 8, 9, 10, 11, 24, 25, 26, 27, 28, 29, 30, 31, 32, 33, 34, 35, 36, 37, 38, 39, 40, 41, 42, 43, 44, 45, 46, 47, 48, 49, 50, 51, 56, 57, 58, 59, 60, 61, 62, 63, 64, 65, 66, 67, 68, 69, 70, 71, 72, 73, 74, 75] (by decide +kernel) (by decide +kernel)
set_option maxRecDepth 20000 in
theorem gX6_meets_X6_minute : GoodIn wsX6_meets (wsV RX6 166 RX6 yX6_minute wsX6_minute) := goodIn_app (goodIn_of _ (by decide +kernel)) ggX6_meets_X6_minute
set_option maxRecDepth 20000 in
theorem ggX6_meets_X6_layBack : GoodIn wsX6_meets wsX6_layBack := goodIn_r _ [55, 7, 6, 56, 57, 58, 59, 60, 61, 62, 63, 64, 65, 66, 67, 68, 69, 70, 71, 72, 73, 74, 75] (by decide +kernel) (by decide +kernel)
set_option maxRecDepth 20000 in
theorem gX6_meets_X6_layBack : GoodIn wsX6_meets (wsV RX6 178 RX6 yX6_layBack wsX6_layBack) := goodIn_app (goodIn_of _ (by decide +kernel)) ggX6_meets_X6_layBack
theorem dX6_meets_0 : decode cX6_meets 0 = .ok (.aload_n 0, 1) := by decide +kernel
theorem dX6_meets_1 : decode cX6_meets 1 = .ok (.invokevirtual 175, 3) := by decide +kernel
theorem dX6_meets_4 : decode cX6_meets 4 = .ok (.iconst 0, 1) := by decide +kernel
theorem dX6_meets_5 : decode cX6_meets 5 = .ok (.istore 4, 2) := by decide +kernel
theorem dX6_meets_7 : decode cX6_meets 7 = .ok (.iload 4, 2) := by decide +kernel
theorem dX6_meets_9 : decode cX6_meets 9 = .ok (.iload_n 3, 1) := by decide +kernel
theorem dX6_meets_10 : decode cX6_meets 10 = .ok (.if_icmp .gt 28, 3) := by decide +kernel
theorem dX6_meets_13 : decode cX6_meets 13 = .ok (.aload_n 0, 1) := by decide +kernel
theorem dX6_meets_14 : decode cX6_meets 14 = .ok (.iload_n 1, 1) := by decide +kernel
theorem dX6_meets_15 : decode cX6_meets 15 = .ok (.iconst 2, 1) := by decide +kernel
theorem dX6_meets_16 : decode cX6_meets 16 = .ok (.invokevirtual 115, 3) := by decide +kernel
theorem dX6_meets_19 : decode cX6_meets 19 = .ok (.aload_n 0, 1) := by decide +kernel
theorem dX6_meets_20 : decode cX6_meets 20 = .ok (.iload_n 2, 1) := by decide +kernel
theorem dX6_meets_21 : decode cX6_meets 21 = .ok (.iconst 2, 1) := by decide +kernel
theorem dX6_meets_22 : decode cX6_meets 22 = .ok (.invokevirtual 115, 3) := by decide +kernel
theorem dX6_meets_25 : decode cX6_meets 25 = .ok (.if_icmp .eq 13, 3) := by decide +kernel
theorem dX6_meets_28 : decode cX6_meets 28 = .ok (.aload_n 0, 1) := by decide +kernel
theorem dX6_meets_29 : decode cX6_meets 29 = .ok (.invokevirtual 166, 3) := by decide +kernel
theorem dX6_meets_32 : decode cX6_meets 32 = .ok (.iinc 4 1, 3) := by decide +kernel
theorem dX6_meets_35 : decode cX6_meets 35 = .ok (.goto (-28), 3) := by decide +kernel
theorem dX6_meets_38 : decode cX6_meets 38 = .ok (.aload_n 0, 1) := by decide +kernel
theorem dX6_meets_39 : decode cX6_meets 39 = .ok (.invokevirtual 178, 3) := by decide +kernel
theorem dX6_meets_42 : decode cX6_meets 42 = .ok (.iload 4, 2) := by decide +kernel
theorem dX6_meets_44 : decode cX6_meets 44 = .ok (.iload_n 3, 1) := by decide +kernel
theorem dX6_meets_45 : decode cX6_meets 45 = .ok (.if_icmp .gt 8, 3) := by decide +kernel
theorem dX6_meets_48 : decode cX6_meets 48 = .ok (.iload 4, 2) := by decide +kernel
theorem dX6_meets_50 : decode cX6_meets 50 = .ok (.goto 4, 3) := by decide +kernel
theorem dX6_meets_53 : decode cX6_meets 53 = .ok (.iconst (-1), 1) := by decide +kernel
theorem dX6_meets_54 : decode cX6_meets 54 = .ok (.ireturn, 1) := by decide +kernel
set_option maxRecDepth 20000 in
theorem ggX6_meet_X6_isClimber : GoodIn wsX6_meet wsX6_isClimber := goodIn_r _ [5, 6, 7, 8, 4, 9, 73, 74, 75, 76, 77, 78, 79, 80, 81, 82, 83, 84, 85, 86, 87, 88, 89, 90, 91, 92] (by decide +kernel) (by decide +kernel)
set_option maxRecDepth 20000 in
theorem gX6_meet_X6_isClimber : GoodIn wsX6_meet (wsV RX6 154 RX6 yX6_isClimber wsX6_isClimber) := goodIn_app (goodIn_of _ (by decide +kernel)) ggX6_meet_X6_isClimber
set_option maxRecDepth 20000 in
theorem ggX6_meet_X6_error : GoodIn wsX6_meet wsX6_error := goodIn_r _ [13, 14, 15, 73, 74, 75, 76, 77, 78, 79, 80, 81, 82, 83, 84, 85, 86, 87, 88, 89, 90, 91, 92] (by decide +kernel) (by decide +kernel)
set_option maxRecDepth 20000 in
theorem gX6_meet_X6_error : GoodIn wsX6_meet (wsV RX6 55 RX6 yX6_error wsX6_error) := goodIn_app (goodIn_of _ (by decide +kernel)) ggX6_meet_X6_error
set_option maxRecDepth 20000 in
theorem ggX6_meet_X6_meets : GoodIn wsX6_meet wsX6_meets := goodIn_r _ [19, 20, 21, 22, 4, 23, 24, 6, 25, 26, 27, 28, 29, 30, 31, 32, 33, 34, 35, 36, 37, 38, 39, 40, 41, 42, 43, 44, 45, 46, 47, 48, 49, 50, 51, 52, 53, 54, 55, 56, 57, 58, 59, 60, 61, 62, 63, 64, 65, 66, 67, 68, 69, 70, 71, 72, 73, 74, 75, 76, 77, 78, 79, 80, 81, 82, 83, 84, 85, 86, 87, 88, 89, 90, 91, 92] (by decide +kernel) (by decide +kernel)
set_option maxRecDepth 20000 in
theorem gX6_meet_X6_meets : GoodIn wsX6_meet (wsV RX6 181 RX6 yX6_meets wsX6_meets) := goodIn_app (goodIn_of _ (by decide +kernel)) ggX6_meet_X6_meets
theorem dX6_meet_0 : decode cX6_meet 0 = .ok (.aload_n 0, 1) := by decide +kernel
theorem dX6_meet_1 : decode cX6_meet 1 = .ok (.iload_n 1, 1) := by decide +kernel
theorem dX6_meet_2 : decode cX6_meet 2 = .ok (.invokevirtual 154, 3) := by decide +kernel
theorem dX6_meet_5 : decode cX6_meet 5 = .ok (.ifCond .eq 16, 3) := by decide +kernel
theorem dX6_meet_8 : decode cX6_meet 8 = .ok (.aload_n 0, 1) := by decide +kernel
theorem dX6_meet_9 : decode cX6_meet 9 = .ok (.iload_n 2, 1) := by decide +kernel
theorem dX6_meet_10 : decode cX6_meet 10 = .ok (.invokevirtual 154, 3) := by decide +kernel
theorem dX6_meet_13 : decode cX6_meet 13 = .ok (.ifCond .eq 8, 3) := by decide +kernel
theorem dX6_meet_16 : decode cX6_meet 16 = .ok (.iload_n 1, 1) := by decide +kernel
theorem dX6_meet_17 : decode cX6_meet 17 = .ok (.iload_n 2, 1) := by decide +kernel
theorem dX6_meet_18 : decode cX6_meet 18 = .ok (.if_icmp .ne 9, 3) := by decide +kernel
theorem dX6_meet_21 : decode cX6_meet 21 = .ok (.aload_n 0, 1) := by decide +kernel
theorem dX6_meet_22 : decode cX6_meet 22 = .ok (.iconst 1, 1) := by decide +kernel
theorem dX6_meet_23 : decode cX6_meet 23 = .ok (.invokevirtual 55, 3) := by decide +kernel
theorem dX6_meet_26 : decode cX6_meet 26 = .ok (.ireturn, 1) := by decide +kernel
theorem dX6_meet_27 : decode cX6_meet 27 = .ok (.aload_n 0, 1) := by decide +kernel
theorem dX6_meet_28 : decode cX6_meet 28 = .ok (.iload_n 1, 1) := by decide +kernel
theorem dX6_meet_29 : decode cX6_meet 29 = .ok (.iload_n 2, 1) := by decide +kernel
theorem dX6_meet_30 : decode cX6_meet 30 = .ok (.sipush 200, 3) := by decide +kernel
theorem dX6_meet_33 : decode cX6_meet 33 = .ok (.invokevirtual 181, 3) := by decide +kernel
theorem dX6_meet_36 : decode cX6_meet 36 = .ok (.istore_n 3, 1) := by decide +kernel
theorem dX6_meet_37 : decode cX6_meet 37 = .ok (.iload_n 3, 1) := by decide +kernel
theorem dX6_meet_38 : decode cX6_meet 38 = .ok (.iconst (-1), 1) := by decide +kernel
theorem dX6_meet_39 : decode cX6_meet 39 = .ok (.if_icmp .ne 11, 3) := by decide +kernel
theorem dX6_meet_42 : decode cX6_meet 42 = .ok (.aload_n 0, 1) := by decide +kernel
theorem dX6_meet_43 : decode cX6_meet 43 = .ok (.iconst 2, 1) := by decide +kernel
theorem dX6_meet_44 : decode cX6_meet 44 = .ok (.invokevirtual 55, 3) := by decide +kernel
theorem dX6_meet_47 : decode cX6_meet 47 = .ok (.goto 4, 3) := by decide +kernel
theorem dX6_meet_50 : decode cX6_meet 50 = .ok (.iload_n 3, 1) := by decide +kernel
theorem dX6_meet_51 : decode cX6_meet 51 = .ok (.ireturn, 1) := by decide +kernel
set_option maxRecDepth 20000 in
theorem ggX6_lap_X6_isClimber : GoodIn wsX6_lap wsX6_isClimber := goodIn_r _ [5, 6, 7, 8, 4, 9, 69, 70, 71, 72, 73, 74, 75, 76, 77, 78, 79, 80, 81, 82, 83, 84, 85, 86, 87, 88] (by decide +kernel) (by decide +kernel)
set_option maxRecDepth 20000 in
theorem gX6_lap_X6_isClimber : GoodIn wsX6_lap (wsV RX6 154 RX6 yX6_isClimber wsX6_isClimber) := goodIn_app (goodIn_of _ (by decide +kernel)) ggX6_lap_X6_isClimber
set_option maxRecDepth 20000 in
theorem ggX6_lap_X6_in : GoodIn wsX6_lap wsX6_in := goodIn_r _ [9] (by decide +kernel) (by decide +kernel)
set_option maxRecDepth 20000 in
theorem gX6_lap_X6_in : GoodIn wsX6_lap (va_wsS RX6 51 yX6_in wsX6_in) := goodIn_app (goodIn_of _ (by decide +kernel)) ggX6_lap_X6_in
set_option maxRecDepth 20000 in
theorem ggX6_lap_X6_error : GoodIn wsX6_lap wsX6_error := goodIn_r _ [13, 14, 15, 69, 70, 71, 72, 73, 74, 75, 76, 77, 78, 79, 80, 81, 82, 83, 84, 85, 86, 87, 88] (by decide +kernel) (by decide +kernel)
set_option maxRecDepth 20000 in
theorem gX6_lap_X6_error : GoodIn wsX6_lap (wsV RX6 55 RX6 yX6_error wsX6_error) := goodIn_app (goodIn_of _ (by decide +kernel)) ggX6_lap_X6_error
set_option maxRecDepth 20000 in
theorem ggX6_lap_X6_its : GoodIn wsX6_lap wsX6_its := goodIn_r _ [19, 6, 69, 70, 71, 72, 73, 74, 75, 76, 77, 78, 79, 80, 81, 82, 83, 84, 85, 86, 87, 88] (by decide +kernel) (by decide +kernel)
set_option maxRecDepth 20000 in
theorem gX6_lap_X6_its : GoodIn wsX6_lap (wsV RX6 115 RX6 yX6_its wsX6_its) := goodIn_app (goodIn_of _ (by decide +kernel)) ggX6_lap_X6_its
set_option maxRecDepth 20000 in
theorem ggX6_lap_X6_layDown : GoodIn wsX6_lap wsX6_layDown := goodIn_r _ [23, 24, 6, 69, 70, 71, 72, 73, 74, 75, 76, 77, 78, 79, 80, 81, 82, 83, 84, 85, 86, 87, 88] (by decide +kernel) (by decide +kernel)
set_option maxRecDepth 20000 in
theorem gX6_lap_X6_layDown : GoodIn wsX6_lap (wsV RX6 175 RX6 yX6_layDown wsX6_layDown) := goodIn_app (goodIn_of _ (by decide +kernel)) ggX6_lap_X6_layDown
set_option maxRecDepth 20000 in
theorem ggX6_lap_X6_minute : GoodIn wsX6_lap wsX6_minute := goodIn_r _ [28, 6, 29, 30, 31, 4, 32, 33, 34, 35, 36, 16, 17, 18, 19, 37, 38, 39, 40, 41, 42, 43, 44, 45, 46, 47, 48, 49, 50, 51, 52, 53, 54, 55, 56, 57, 58, 59, 60, 61, 62, 63, 64, 69, 70, 71, 72, 73, 74, 75, 76, 77, 78, 79, 80, 81, 82, 83, 84, 85, 86, 87, 88] (by decide +kernel) (by decide +kernel)
set_option maxRecDepth 20000 in
theorem gX6_lap_X6_minute : GoodIn wsX6_lap (wsV RX6 166 RX6 yX6_minute wsX6_minute) := goodIn_app (goodIn_of _ (by decide +kernel)) ggX6_lap_X6_minute
set_option maxRecDepth 20000 in
theorem ggX6_lap_X6_layBack : GoodIn wsX6_lap wsX6_layBack := goodIn_r _ [68, 6, 24, 69, 70, 71, 72, 73, 74, 75, 76, 77, 78, 79, 80, 81, 82, 83, 84, 85, 86, 87, 88] (by decide +kernel) (by decide +kernel)
set_option maxRecDepth 20000 in
theorem gX6_lap_X6_layBack : GoodIn wsX6_lap (wsV RX6 178 RX6 yX6_layBack wsX6_layBack) := goodIn_app (goodIn_of _ (by decide +kernel)) ggX6_lap_X6_layBack
theorem dX6_lap_0 : decode cX6_lap 0 = .ok (.aload_n 0, 1) := by decide +kernel
theorem dX6_lap_1 : decode cX6_lap 1 = .ok (.iload_n 1, 1) := by decide +kernel
theorem dX6_lap_2 : decode cX6_lap 2 = .ok (.invokevirtual 154, 3) := by decide +kernel
theorem dX6_lap_5 : decode cX6_lap 5 = .ok (.ifCond .eq 12, 3) := by decide +kernel
theorem dX6_lap_8 : decode cX6_lap 8 = .ok (.iload_n 2, 1) := by decide +kernel
theorem dX6_lap_9 : decode cX6_lap 9 = .ok (.iconst 0, 1) := by decide +kernel
theorem dX6_lap_10 : decode cX6_lap 10 = .ok (.iconst 1, 1) := by decide +kernel
theorem dX6_lap_11 : decode cX6_lap 11 = .ok (.invokestatic 51, 3) := by decide +kernel
theorem dX6_lap_14 : decode cX6_lap 14 = .ok (.ifCond .ne 9, 3) := by decide +kernel
theorem dX6_lap_17 : decode cX6_lap 17 = .ok (.aload_n 0, 1) := by decide +kernel
theorem dX6_lap_18 : decode cX6_lap 18 = .ok (.iconst 1, 1) := by decide +kernel
theorem dX6_lap_19 : decode cX6_lap 19 = .ok (.invokevirtual 55, 3) := by decide +kernel
theorem dX6_lap_22 : decode cX6_lap 22 = .ok (.ireturn, 1) := by decide +kernel
theorem dX6_lap_23 : decode cX6_lap 23 = .ok (.aload_n 0, 1) := by decide +kernel
theorem dX6_lap_24 : decode cX6_lap 24 = .ok (.iload_n 1, 1) := by decide +kernel
theorem dX6_lap_25 : decode cX6_lap 25 = .ok (.iconst 2, 1) := by decide +kernel
theorem dX6_lap_26 : decode cX6_lap 26 = .ok (.invokevirtual 115, 3) := by decide +kernel
theorem dX6_lap_29 : decode cX6_lap 29 = .ok (.istore_n 3, 1) := by decide +kernel
theorem dX6_lap_30 : decode cX6_lap 30 = .ok (.aload_n 0, 1) := by decide +kernel
theorem dX6_lap_31 : decode cX6_lap 31 = .ok (.iload_n 1, 1) := by decide +kernel
theorem dX6_lap_32 : decode cX6_lap 32 = .ok (.iconst 3, 1) := by decide +kernel
theorem dX6_lap_33 : decode cX6_lap 33 = .ok (.invokevirtual 115, 3) := by decide +kernel
theorem dX6_lap_36 : decode cX6_lap 36 = .ok (.istore 4, 2) := by decide +kernel
theorem dX6_lap_38 : decode cX6_lap 38 = .ok (.aload_n 0, 1) := by decide +kernel
theorem dX6_lap_39 : decode cX6_lap 39 = .ok (.invokevirtual 175, 3) := by decide +kernel
theorem dX6_lap_42 : decode cX6_lap 42 = .ok (.aload_n 0, 1) := by decide +kernel
theorem dX6_lap_43 : decode cX6_lap 43 = .ok (.invokevirtual 166, 3) := by decide +kernel
theorem dX6_lap_46 : decode cX6_lap 46 = .ok (.iconst 1, 1) := by decide +kernel
theorem dX6_lap_47 : decode cX6_lap 47 = .ok (.istore 5, 2) := by decide +kernel
theorem dX6_lap_49 : decode cX6_lap 49 = .ok (.iload 5, 2) := by decide +kernel
theorem dX6_lap_51 : decode cX6_lap 51 = .ok (.sipush 200, 3) := by decide +kernel
theorem dX6_lap_54 : decode cX6_lap 54 = .ok (.if_icmp .ge 23, 3) := by decide +kernel
theorem dX6_lap_57 : decode cX6_lap 57 = .ok (.aload_n 0, 1) := by decide +kernel
theorem dX6_lap_58 : decode cX6_lap 58 = .ok (.iload_n 1, 1) := by decide +kernel
theorem dX6_lap_59 : decode cX6_lap 59 = .ok (.iconst 2, 1) := by decide +kernel
theorem dX6_lap_60 : decode cX6_lap 60 = .ok (.invokevirtual 115, 3) := by decide +kernel
theorem dX6_lap_63 : decode cX6_lap 63 = .ok (.iload_n 3, 1) := by decide +kernel
theorem dX6_lap_64 : decode cX6_lap 64 = .ok (.if_icmp .eq 13, 3) := by decide +kernel
theorem dX6_lap_67 : decode cX6_lap 67 = .ok (.aload_n 0, 1) := by decide +kernel
theorem dX6_lap_68 : decode cX6_lap 68 = .ok (.invokevirtual 166, 3) := by decide +kernel
theorem dX6_lap_71 : decode cX6_lap 71 = .ok (.iinc 5 1, 3) := by decide +kernel
theorem dX6_lap_74 : decode cX6_lap 74 = .ok (.goto (-25), 3) := by decide +kernel
theorem dX6_lap_77 : decode cX6_lap 77 = .ok (.aload_n 0, 1) := by decide +kernel
theorem dX6_lap_78 : decode cX6_lap 78 = .ok (.iload_n 1, 1) := by decide +kernel
theorem dX6_lap_79 : decode cX6_lap 79 = .ok (.iconst 2, 1) := by decide +kernel
theorem dX6_lap_80 : decode cX6_lap 80 = .ok (.invokevirtual 115, 3) := by decide +kernel
theorem dX6_lap_83 : decode cX6_lap 83 = .ok (.iload_n 3, 1) := by decide +kernel
theorem dX6_lap_84 : decode cX6_lap 84 = .ok (.if_icmp .ne 7, 3) := by decide +kernel
theorem dX6_lap_87 : decode cX6_lap 87 = .ok (.iconst 1, 1) := by decide +kernel
theorem dX6_lap_88 : decode cX6_lap 88 = .ok (.goto 4, 3) := by decide +kernel
theorem dX6_lap_91 : decode cX6_lap 91 = .ok (.iconst 0, 1) := by decide +kernel
theorem dX6_lap_92 : decode cX6_lap 92 = .ok (.istore 6, 2) := by decide +kernel
theorem dX6_lap_94 : decode cX6_lap 94 = .ok (.aload_n 0, 1) := by decide +kernel
theorem dX6_lap_95 : decode cX6_lap 95 = .ok (.iload_n 1, 1) := by decide +kernel
