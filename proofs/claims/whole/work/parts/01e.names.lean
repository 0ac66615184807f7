theorem dX6_lap_96 : decode cX6_lap 96 = .ok (.iconst 3, 1) := by decide +kernel
theorem dX6_lap_97 : decode cX6_lap 97 = .ok (.invokevirtual 115, 3) := by decide +kernel
theorem dX6_lap_100 : decode cX6_lap 100 = .ok (.iload 4, 2) := by decide +kernel
theorem dX6_lap_102 : decode cX6_lap 102 = .ok (.isub, 1) := by decide +kernel
theorem dX6_lap_103 : decode cX6_lap 103 = .ok (.istore 7, 2) := by decide +kernel
theorem dX6_lap_105 : decode cX6_lap 105 = .ok (.aload_n 0, 1) := by decide +kernel
theorem dX6_lap_106 : decode cX6_lap 106 = .ok (.invokevirtual 178, 3) := by decide +kernel
theorem dX6_lap_109 : decode cX6_lap 109 = .ok (.iload 6, 2) := by decide +kernel
theorem dX6_lap_111 : decode cX6_lap 111 = .ok (.ifCond .ne 11, 3) := by decide +kernel
theorem dX6_lap_114 : decode cX6_lap 114 = .ok (.aload_n 0, 1) := by decide +kernel
theorem dX6_lap_115 : decode cX6_lap 115 = .ok (.iconst 2, 1) := by decide +kernel
theorem dX6_lap_116 : decode cX6_lap 116 = .ok (.invokevirtual 55, 3) := by decide +kernel
theorem dX6_lap_119 : decode cX6_lap 119 = .ok (.goto 14, 3) := by decide +kernel
theorem dX6_lap_122 : decode cX6_lap 122 = .ok (.iload_n 2, 1) := by decide +kernel
theorem dX6_lap_123 : decode cX6_lap 123 = .ok (.ifCond .ne 8, 3) := by decide +kernel
theorem dX6_lap_126 : decode cX6_lap 126 = .ok (.iload 5, 2) := by decide +kernel
theorem dX6_lap_128 : decode cX6_lap 128 = .ok (.goto 5, 3) := by decide +kernel
theorem dX6_lap_131 : decode cX6_lap 131 = .ok (.iload 7, 2) := by decide +kernel
theorem dX6_lap_133 : decode cX6_lap 133 = .ok (.ireturn, 1) := by decide +kernel
set_option maxRecDepth 20000 in
theorem ggX6_areTogether_X6_its : GoodIn wsX6_areTogether wsX6_its := goodIn_r _ [6, 1, 7, 8, 9, 10, 11, 12, 13, 14, 15, 16, 17, 18, 19, 20, 21, 22, 23, 24, 25, 26] (by decide +kernel) (by decide +kernel)
set_option maxRecDepth 20000 in
theorem gX6_areTogether_X6_its : GoodIn wsX6_areTogether (wsV RX6 115 RX6 yX6_its wsX6_its) := goodIn_app (goodIn_of _ (by decide +kernel)) ggX6_areTogether_X6_its
theorem dX6_areTogether_0 : decode cX6_areTogether 0 = .ok (.iconst 1, 1) := by decide +kernel
theorem dX6_areTogether_1 : decode cX6_areTogether 1 = .ok (.istore_n 1, 1) := by decide +kernel
theorem dX6_areTogether_2 : decode cX6_areTogether 2 = .ok (.iconst 1, 1) := by decide +kernel
theorem dX6_areTogether_3 : decode cX6_areTogether 3 = .ok (.istore_n 2, 1) := by decide +kernel
theorem dX6_areTogether_4 : decode cX6_areTogether 4 = .ok (.iload_n 2, 1) := by decide +kernel
theorem dX6_areTogether_5 : decode cX6_areTogether 5 = .ok (.aload_n 0, 1) := by decide +kernel
theorem dX6_areTogether_6 : decode cX6_areTogether 6 = .ok (.getfield 7, 3) := by decide +kernel
theorem dX6_areTogether_9 : decode cX6_areTogether 9 = .ok (.bipush 6, 2) := by decide +kernel
theorem dX6_areTogether_11 : decode cX6_areTogether 11 = .ok (.iaload, 1) := by decide +kernel
theorem dX6_areTogether_12 : decode cX6_areTogether 12 = .ok (.if_icmp .ge 34, 3) := by decide +kernel
theorem dX6_areTogether_15 : decode cX6_areTogether 15 = .ok (.iload_n 1, 1) := by decide +kernel
theorem dX6_areTogether_16 : decode cX6_areTogether 16 = .ok (.ifCond .eq 22, 3) := by decide +kernel
theorem dX6_areTogether_19 : decode cX6_areTogether 19 = .ok (.aload_n 0, 1) := by decide +kernel
theorem dX6_areTogether_20 : decode cX6_areTogether 20 = .ok (.iload_n 2, 1) := by decide +kernel
theorem dX6_areTogether_21 : decode cX6_areTogether 21 = .ok (.iconst 2, 1) := by decide +kernel
theorem dX6_areTogether_22 : decode cX6_areTogether 22 = .ok (.invokevirtual 115, 3) := by decide +kernel
theorem dX6_areTogether_25 : decode cX6_areTogether 25 = .ok (.aload_n 0, 1) := by decide +kernel
theorem dX6_areTogether_26 : decode cX6_areTogether 26 = .ok (.iconst 0, 1) := by decide +kernel
theorem dX6_areTogether_27 : decode cX6_areTogether 27 = .ok (.iconst 2, 1) := by decide +kernel
theorem dX6_areTogether_28 : decode cX6_areTogether 28 = .ok (.invokevirtual 115, 3) := by decide +kernel
theorem dX6_areTogether_31 : decode cX6_areTogether 31 = .ok (.if_icmp .ne 7, 3) := by decide +kernel
theorem dX6_areTogether_34 : decode cX6_areTogether 34 = .ok (.iconst 1, 1) := by decide +kernel
theorem dX6_areTogether_35 : decode cX6_areTogether 35 = .ok (.goto 4, 3) := by decide +kernel
theorem dX6_areTogether_38 : decode cX6_areTogether 38 = .ok (.iconst 0, 1) := by decide +kernel
theorem dX6_areTogether_39 : decode cX6_areTogether 39 = .ok (.istore_n 1, 1) := by decide +kernel
theorem dX6_areTogether_40 : decode cX6_areTogether 40 = .ok (.iinc 2 1, 3) := by decide +kernel
theorem dX6_areTogether_43 : decode cX6_areTogether 43 = .ok (.goto (-39), 3) := by decide +kernel
theorem dX6_areTogether_46 : decode cX6_areTogether 46 = .ok (.iload_n 1, 1) := by decide +kernel
theorem dX6_areTogether_47 : decode cX6_areTogether 47 = .ok (.ireturn, 1) := by decide +kernel
set_option maxRecDepth 20000 in
theorem ggX6_doDispute_X6_its : GoodIn wsX6_doDispute wsX6_its := goodIn_r _ [6, 1, 7, 8, 9, 10, 11, 12, 13, 14, 15, 16, 17, 18, 19, 20, 21, 22, 23, 24, 25, 26] (by decide +kernel) (by decide +kernel)
set_option maxRecDepth 20000 in
theorem gX6_doDispute_X6_its : GoodIn wsX6_doDispute (wsV RX6 115 RX6 yX6_its wsX6_its) := goodIn_app (goodIn_of _ (by decide +kernel)) ggX6_doDispute_X6_its
theorem dX6_doDispute_0 : decode cX6_doDispute 0 = .ok (.iconst 0, 1) := by decide +kernel
theorem dX6_doDispute_1 : decode cX6_doDispute 1 = .ok (.istore_n 1, 1) := by decide +kernel
theorem dX6_doDispute_2 : decode cX6_doDispute 2 = .ok (.iload_n 1, 1) := by decide +kernel
theorem dX6_doDispute_3 : decode cX6_doDispute 3 = .ok (.aload_n 0, 1) := by decide +kernel
theorem dX6_doDispute_4 : decode cX6_doDispute 4 = .ok (.getfield 7, 3) := by decide +kernel
theorem dX6_doDispute_7 : decode cX6_doDispute 7 = .ok (.bipush 6, 2) := by decide +kernel
theorem dX6_doDispute_9 : decode cX6_doDispute 9 = .ok (.iaload, 1) := by decide +kernel
theorem dX6_doDispute_10 : decode cX6_doDispute 10 = .ok (.if_icmp .ge 54, 3) := by decide +kernel
theorem dX6_doDispute_13 : decode cX6_doDispute 13 = .ok (.iconst 0, 1) := by decide +kernel
theorem dX6_doDispute_14 : decode cX6_doDispute 14 = .ok (.istore_n 2, 1) := by decide +kernel
theorem dX6_doDispute_15 : decode cX6_doDispute 15 = .ok (.iload_n 2, 1) := by decide +kernel
theorem dX6_doDispute_16 : decode cX6_doDispute 16 = .ok (.iload_n 1, 1) := by decide +kernel
theorem dX6_doDispute_17 : decode cX6_doDispute 17 = .ok (.if_icmp .ge 41, 3) := by decide +kernel
theorem dX6_doDispute_20 : decode cX6_doDispute 20 = .ok (.aload_n 0, 1) := by decide +kernel
theorem dX6_doDispute_21 : decode cX6_doDispute 21 = .ok (.iload_n 1, 1) := by decide +kernel
theorem dX6_doDispute_22 : decode cX6_doDispute 22 = .ok (.iconst 2, 1) := by decide +kernel
theorem dX6_doDispute_23 : decode cX6_doDispute 23 = .ok (.invokevirtual 115, 3) := by decide +kernel
theorem dX6_doDispute_26 : decode cX6_doDispute 26 = .ok (.aload_n 0, 1) := by decide +kernel
theorem dX6_doDispute_27 : decode cX6_doDispute 27 = .ok (.iload_n 2, 1) := by decide +kernel
theorem dX6_doDispute_28 : decode cX6_doDispute 28 = .ok (.iconst 2, 1) := by decide +kernel
theorem dX6_doDispute_29 : decode cX6_doDispute 29 = .ok (.invokevirtual 115, 3) := by decide +kernel
theorem dX6_doDispute_32 : decode cX6_doDispute 32 = .ok (.if_icmp .ne 20, 3) := by decide +kernel
theorem dX6_doDispute_35 : decode cX6_doDispute 35 = .ok (.aload_n 0, 1) := by decide +kernel
theorem dX6_doDispute_36 : decode cX6_doDispute 36 = .ok (.iload_n 1, 1) := by decide +kernel
theorem dX6_doDispute_37 : decode cX6_doDispute 37 = .ok (.iconst 3, 1) := by decide +kernel
theorem dX6_doDispute_38 : decode cX6_doDispute 38 = .ok (.invokevirtual 115, 3) := by decide +kernel
theorem dX6_doDispute_41 : decode cX6_doDispute 41 = .ok (.aload_n 0, 1) := by decide +kernel
theorem dX6_doDispute_42 : decode cX6_doDispute 42 = .ok (.iload_n 2, 1) := by decide +kernel
theorem dX6_doDispute_43 : decode cX6_doDispute 43 = .ok (.iconst 3, 1) := by decide +kernel
theorem dX6_doDispute_44 : decode cX6_doDispute 44 = .ok (.invokevirtual 115, 3) := by decide +kernel
theorem dX6_doDispute_47 : decode cX6_doDispute 47 = .ok (.if_icmp .eq 5, 3) := by decide +kernel
theorem dX6_doDispute_50 : decode cX6_doDispute 50 = .ok (.iconst 1, 1) := by decide +kernel
theorem dX6_doDispute_51 : decode cX6_doDispute 51 = .ok (.ireturn, 1) := by decide +kernel
theorem dX6_doDispute_52 : decode cX6_doDispute 52 = .ok (.iinc 2 1, 3) := by decide +kernel
theorem dX6_doDispute_55 : decode cX6_doDispute 55 = .ok (.goto (-40), 3) := by decide +kernel
theorem dX6_doDispute_58 : decode cX6_doDispute 58 = .ok (.iinc 1 1, 3) := by decide +kernel
theorem dX6_doDispute_61 : decode cX6_doDispute 61 = .ok (.goto (-59), 3) := by decide +kernel
theorem dX6_doDispute_64 : decode cX6_doDispute 64 = .ok (.iconst 0, 1) := by decide +kernel
theorem dX6_doDispute_65 : decode cX6_doDispute 65 = .ok (.ireturn, 1) := by decide +kernel
set_option maxRecDepth 20000 in
theorem ggX6_together_X6_error : GoodIn wsX6_together wsX6_error := goodIn_r _ [6, 7, 8, 66, 67, 68, 69, 70, 71, 72, 73, 74, 75, 76, 77, 78, 79, 80, 81, 82, 83, 84, 85] (by decide +kernel) (by decide +kernel)
set_option maxRecDepth 20000 in
theorem gX6_together_X6_error : GoodIn wsX6_together (wsV RX6 55 RX6 yX6_error wsX6_error) := goodIn_app (goodIn_of _ (by decide +kernel)) ggX6_together_X6_error
set_option maxRecDepth 20000 in
theorem ggX6_together_X6_layDown : GoodIn wsX6_together wsX6_layDown := goodIn_r _ [12, 13, 1, 66, 67, 68, 69, 70, 71, 72, 73, 74, 75, 76, 77, 78, 79, 80, 81, 82, 83, 84, 85] (by decide +kernel) (by decide +kernel)
set_option maxRecDepth 20000 in
theorem gX6_together_X6_layDown : GoodIn wsX6_together (wsV RX6 175 RX6 yX6_layDown wsX6_layDown) := goodIn_app (goodIn_of _ (by decide +kernel)) ggX6_together_X6_layDown
set_option maxRecDepth 20000 in
theorem ggX6_together_X6_areTogether : GoodIn wsX6_together wsX6_areTogether := goodIn_r _ [17, 1, 18, 19, 20, 5, 21, 66, 67, 68, 69, 70, 71, 72, 73, 74, 75, 76, 77, 78, 79, 80, 81, 82, 83, 84, 85] (by decide +kernel) (by decide +kernel)
set_option maxRecDepth 20000 in
theorem gX6_together_X6_areTogether : GoodIn wsX6_together (wsV RX6 184 RX6 yX6_areTogether wsX6_areTogether) := goodIn_app (goodIn_of _ (by decide +kernel)) ggX6_together_X6_areTogether
set_option maxRecDepth 20000 in
theorem ggX6_together_X6_minute : GoodIn wsX6_together wsX6_minute := goodIn_r _ [25, 1, 26, 27, 28, 5, 29, 30, 31, 32, 33, 18, 19, 20, 21, 34, 35, 36, 37, 38, 39, 40, 41, 42, 43, 44, 45, 46, 47, 48, 49, 50, 51, 52, 53, 54, 55, 56, 57, 58, 59, 60, 61, 66, 67, 68, 69, 70, 71, 72, 73, 74, 75, 76, 77, 78, 79, 80, 81, 82, 83, 84, 85] (by decide +kernel) (by decide +kernel)
set_option maxRecDepth 20000 in
theorem gX6_together_X6_minute : GoodIn wsX6_together (wsV RX6 166 RX6 yX6_minute wsX6_minute) := goodIn_app (goodIn_of _ (by decide +kernel)) ggX6_together_X6_minute
set_option maxRecDepth 20000 in
theorem ggX6_together_X6_layBack : GoodIn wsX6_together wsX6_layBack := goodIn_r _ [65, 1, 13, 66, 67, 68, 69, 70, 71, 72, 73, 74, 75, 76, 77, 78, 79, 80, 81, 82, 83, 84, 85] (by decide +kernel) (by decide +kernel)
set_option maxRecDepth 20000 in
theorem gX6_together_X6_layBack : GoodIn wsX6_together (wsV RX6 178 RX6 yX6_layBack wsX6_layBack) := goodIn_app (goodIn_of _ (by decide +kernel)) ggX6_together_X6_layBack
theorem dX6_together_0 : decode cX6_together 0 = .ok (.aload_n 0, 1) := by decide +kernel
theorem dX6_together_1 : decode cX6_together 1 = .ok (.getfield 7, 3) := by decide +kernel
theorem dX6_together_4 : decode cX6_together 4 = .ok (.bipush 6, 2) := by decide +kernel
theorem dX6_together_6 : decode cX6_together 6 = .ok (.iaload, 1) := by decide +kernel
theorem dX6_together_7 : decode cX6_together 7 = .ok (.ifCond .ne 9, 3) := by decide +kernel
theorem dX6_together_10 : decode cX6_together 10 = .ok (.aload_n 0, 1) := by decide +kernel
theorem dX6_together_11 : decode cX6_together 11 = .ok (.iconst 3, 1) := by decide +kernel
theorem dX6_together_12 : decode cX6_together 12 = .ok (.invokevirtual 55, 3) := by decide +kernel
theorem dX6_together_15 : decode cX6_together 15 = .ok (.ireturn, 1) := by decide +kernel
theorem dX6_together_16 : decode cX6_together 16 = .ok (.aload_n 0, 1) := by decide +kernel
theorem dX6_together_17 : decode cX6_together 17 = .ok (.invokevirtual 175, 3) := by decide +kernel
theorem dX6_together_20 : decode cX6_together 20 = .ok (.iconst 0, 1) := by decide +kernel
theorem dX6_together_21 : decode cX6_together 21 = .ok (.istore_n 1, 1) := by decide +kernel
theorem dX6_together_22 : decode cX6_together 22 = .ok (.iload_n 1, 1) := by decide +kernel
theorem dX6_together_23 : decode cX6_together 23 = .ok (.sipush 500, 3) := by decide +kernel
theorem dX6_together_26 : decode cX6_together 26 = .ok (.if_icmp .gt 20, 3) := by decide +kernel
theorem dX6_together_29 : decode cX6_together 29 = .ok (.aload_n 0, 1) := by decide +kernel
theorem dX6_together_30 : decode cX6_together 30 = .ok (.invokevirtual 184, 3) := by decide +kernel
theorem dX6_together_33 : decode cX6_together 33 = .ok (.ifCond .ne 13, 3) := by decide +kernel
theorem dX6_together_36 : decode cX6_together 36 = .ok (.aload_n 0, 1) := by decide +kernel
theorem dX6_together_37 : decode cX6_together 37 = .ok (.invokevirtual 166, 3) := by decide +kernel
theorem dX6_together_40 : decode cX6_together 40 = .ok (.iinc 1 1, 3) := by decide +kernel
theorem dX6_together_43 : decode cX6_together 43 = .ok (.goto (-21), 3) := by decide +kernel
theorem dX6_together_46 : decode cX6_together 46 = .ok (.aload_n 0, 1) := by decide +kernel
theorem dX6_together_47 : decode cX6_together 47 = .ok (.invokevirtual 178, 3) := by decide +kernel
theorem dX6_together_50 : decode cX6_together 50 = .ok (.iload_n 1, 1) := by decide +kernel
theorem dX6_together_51 : decode cX6_together 51 = .ok (.sipush 500, 3) := by decide +kernel
theorem dX6_together_54 : decode cX6_together 54 = .ok (.if_icmp .gt 7, 3) := by decide +kernel
theorem dX6_together_57 : decode cX6_together 57 = .ok (.iload_n 1, 1) := by decide +kernel
theorem dX6_together_58 : decode cX6_together 58 = .ok (.goto 8, 3) := by decide +kernel
theorem dX6_together_61 : decode cX6_together 61 = .ok (.aload_n 0, 1) := by decide +kernel
theorem dX6_together_62 : decode cX6_together 62 = .ok (.iconst 2, 1) := by decide +kernel
theorem dX6_together_63 : decode cX6_together 63 = .ok (.invokevirtual 55, 3) := by decide +kernel
theorem dX6_together_66 : decode cX6_together 66 = .ok (.ireturn, 1) := by decide +kernel
set_option maxRecDepth 20000 in
theorem ggX6_dispute_X6_layDown : GoodIn wsX6_dispute wsX6_layDown := goodIn_r _ [5, 6, 7, 66, 67, 68, 69, 70, 71, 72, 73, 74, 75, 76, 77, 78, 79, 80, 81, 82, 83, 84, 85] (by decide +kernel) (by decide +kernel)
set_option maxRecDepth 20000 in
theorem gX6_dispute_X6_layDown : GoodIn wsX6_dispute (wsV RX6 175 RX6 yX6_layDown wsX6_layDown) := goodIn_app (goodIn_of _ (by decide +kernel)) ggX6_dispute_X6_layDown
set_option maxRecDepth 20000 in
theorem ggX6_dispute_X6_doDispute : GoodIn wsX6_dispute wsX6_doDispute := goodIn_r _ [11, 7, 12, 13, 14, 4, 15, 66, 67, 68, 69, 70, 71, 72, 73, 74, 75, 76, 77, 78, 79, 80, 81, 82, 83, 84, 85] (by decide +kernel) (by decide +kernel)
set_option maxRecDepth 20000 in
theorem gX6_dispute_X6_doDispute : GoodIn wsX6_dispute (wsV RX6 187 RX6 yX6_doDispute wsX6_doDispute) := goodIn_app (goodIn_of _ (by decide +kernel)) ggX6_dispute_X6_doDispute
set_option maxRecDepth 20000 in
theorem ggX6_dispute_X6_minute : GoodIn wsX6_dispute wsX6_minute := goodIn_r _ [19, 7, 20, 21, 22, 4, 23, 24, 25, 26, 27, 12, 13, 14, 15, 28, 29, 30, 31, 32, 33, 34, 35, 36, 37, 38, 39, 40, 41, 42, 43, 44, 45, 46, 47, 48, 49, 50, 51, 52, 53, 54, 55, 66, 67, 68, 69, 70, 71, 72, 73, 74, 75, 76, 77, 78, 79, 80, 81, 82, 83, 84, 85] (by decide +kernel) (by decide +kernel)
set_option maxRecDepth 20000 in
theorem gX6_dispute_X6_minute : GoodIn wsX6_dispute (wsV RX6 166 RX6 yX6_minute wsX6_minute) := goodIn_app (goodIn_of _ (by decide +kernel)) ggX6_dispute_X6_minute
set_option maxRecDepth 20000 in
theorem ggX6_dispute_X6_layBack : GoodIn wsX6_dispute wsX6_layBack := goodIn_r _ [59, 7, 6, 66, 67, 68, 69, 70, 71, 72, 73, 74, 75, 76, 77, 78, 79, 80, 81, 82, 83, 84, 85] (by decide +kernel) (by decide +kernel)
set_option maxRecDepth 20000 in
theorem gX6_dispute_X6_layBack : GoodIn wsX6_dispute (wsV RX6 178 RX6 yX6_layBack wsX6_layBack) := goodIn_app (goodIn_of _ (by decide +kernel)) ggX6_dispute_X6_layBack
set_option maxRecDepth 20000 in
theorem ggX6_dispute_X6_error : GoodIn wsX6_dispute wsX6_error := goodIn_r _ [63, 64, 65, 66, 67, 68, 69, 70, 71, 72, 73, 74, 75, 76, 77, 78, 79, 80, 81, 82, 83, 84, 85] (by decide +kernel) (by decide +kernel)
set_option maxRecDepth 20000 in
theorem gX6_dispute_X6_error : GoodIn wsX6_dispute (wsV RX6 55 RX6 yX6_error wsX6_error) := goodIn_app (goodIn_of _ (by decide +kernel)) ggX6_dispute_X6_error
theorem dX6_dispute_0 : decode cX6_dispute 0 = .ok (.aload_n 0, 1) := by decide +kernel
theorem dX6_dispute_1 : decode cX6_dispute 1 = .ok (.invokevirtual 175, 3) := by decide +kernel
theorem dX6_dispute_4 : decode cX6_dispute 4 = .ok (.iconst 0, 1) := by decide +kernel
theorem dX6_dispute_5 : decode cX6_dispute 5 = .ok (.istore_n 1, 1) := by decide +kernel
theorem dX6_dispute_6 : decode cX6_dispute 6 = .ok (.iload_n 1, 1) := by decide +kernel
theorem dX6_dispute_7 : decode cX6_dispute 7 = .ok (.sipush 200, 3) := by decide +kernel
theorem dX6_dispute_10 : decode cX6_dispute 10 = .ok (.if_icmp .gt 20, 3) := by decide +kernel
theorem dX6_dispute_13 : decode cX6_dispute 13 = .ok (.aload_n 0, 1) := by decide +kernel
theorem dX6_dispute_14 : decode cX6_dispute 14 = .ok (.invokevirtual 187, 3) := by decide +kernel
theorem dX6_dispute_17 : decode cX6_dispute 17 = .ok (.ifCond .ne 13, 3) := by decide +kernel
theorem dX6_dispute_20 : decode cX6_dispute 20 = .ok (.aload_n 0, 1) := by decide +kernel
theorem dX6_dispute_21 : decode cX6_dispute 21 = .ok (.invokevirtual 166, 3) := by decide +kernel
theorem dX6_dispute_24 : decode cX6_dispute 24 = .ok (.iinc 1 1, 3) := by decide +kernel
theorem dX6_dispute_27 : decode cX6_dispute 27 = .ok (.goto (-21), 3) := by decide +kernel
theorem dX6_dispute_30 : decode cX6_dispute 30 = .ok (.aload_n 0, 1) := by decide +kernel
theorem dX6_dispute_31 : decode cX6_dispute 31 = .ok (.invokevirtual 178, 3) := by decide +kernel
theorem dX6_dispute_34 : decode cX6_dispute 34 = .ok (.iload_n 1, 1) := by decide +kernel
theorem dX6_dispute_35 : decode cX6_dispute 35 = .ok (.sipush 200, 3) := by decide +kernel
theorem dX6_dispute_38 : decode cX6_dispute 38 = .ok (.if_icmp .gt 7, 3) := by decide +kernel
theorem dX6_dispute_41 : decode cX6_dispute 41 = .ok (.iload_n 1, 1) := by decide +kernel
theorem dX6_dispute_42 : decode cX6_dispute 42 = .ok (.goto 8, 3) := by decide +kernel
theorem dX6_dispute_45 : decode cX6_dispute 45 = .ok (.aload_n 0, 1) := by decide +kernel
theorem dX6_dispute_46 : decode cX6_dispute 46 = .ok (.iconst 2, 1) := by decide +kernel
theorem dX6_dispute_47 : decode cX6_dispute 47 = .ok (.invokevirtual 55, 3) := by decide +kernel
theorem dX6_dispute_50 : decode cX6_dispute 50 = .ok (.ireturn, 1) := by decide +kernel
theorem dX6_bitsOf_0 : decode cX6_bitsOf 0 = .ok (.iconst 0, 1) := by decide +kernel
theorem dX6_bitsOf_1 : decode cX6_bitsOf 1 = .ok (.istore_n 1, 1) := by decide +kernel
theorem dX6_bitsOf_2 : decode cX6_bitsOf 2 = .ok (.iload_n 0, 1) := by decide +kernel
theorem dX6_bitsOf_3 : decode cX6_bitsOf 3 = .ok (.istore_n 2, 1) := by decide +kernel
theorem dX6_bitsOf_4 : decode cX6_bitsOf 4 = .ok (.iload_n 2, 1) := by decide +kernel
theorem dX6_bitsOf_5 : decode cX6_bitsOf 5 = .ok (.ifCond .eq 15, 3) := by decide +kernel
theorem dX6_bitsOf_8 : decode cX6_bitsOf 8 = .ok (.iinc 1 1, 3) := by decide +kernel
theorem dX6_bitsOf_11 : decode cX6_bitsOf 11 = .ok (.iload_n 2, 1) := by decide +kernel
theorem dX6_bitsOf_12 : decode cX6_bitsOf 12 = .ok (.iload_n 2, 1) := by decide +kernel
theorem dX6_bitsOf_13 : decode cX6_bitsOf 13 = .ok (.iconst 1, 1) := by decide +kernel
theorem dX6_bitsOf_14 : decode cX6_bitsOf 14 = .ok (.isub, 1) := by decide +kernel
theorem dX6_bitsOf_15 : decode cX6_bitsOf 15 = .ok (.iand, 1) := by decide +kernel
theorem dX6_bitsOf_16 : decode cX6_bitsOf 16 = .ok (.istore_n 2, 1) := by decide +kernel
theorem dX6_bitsOf_17 : decode cX6_bitsOf 17 = .ok (.goto (-13), 3) := by decide +kernel
theorem dX6_bitsOf_20 : decode cX6_bitsOf 20 = .ok (.iload_n 1, 1) := by decide +kernel
theorem dX6_bitsOf_21 : decode cX6_bitsOf 21 = .ok (.ireturn, 1) := by decide +kernel
theorem dX6_riseBut_0 : decode cX6_riseBut 0 = .ok (.iconst 0, 1) := by decide +kernel
theorem dX6_riseBut_1 : decode cX6_riseBut 1 = .ok (.istore_n 2, 1) := by decide +kernel
theorem dX6_riseBut_2 : decode cX6_riseBut 2 = .ok (.iconst 0, 1) := by decide +kernel
theorem dX6_riseBut_3 : decode cX6_riseBut 3 = .ok (.istore_n 3, 1) := by decide +kernel
theorem dX6_riseBut_4 : decode cX6_riseBut 4 = .ok (.iload_n 3, 1) := by decide +kernel
theorem dX6_riseBut_5 : decode cX6_riseBut 5 = .ok (.aload_n 0, 1) := by decide +kernel
theorem dX6_riseBut_6 : decode cX6_riseBut 6 = .ok (.getfield 7, 3) := by decide +kernel
theorem dX6_riseBut_9 : decode cX6_riseBut 9 = .ok (.iconst 1, 1) := by decide +kernel
theorem dX6_riseBut_10 : decode cX6_riseBut 10 = .ok (.iaload, 1) := by decide +kernel
theorem dX6_riseBut_11 : decode cX6_riseBut 11 = .ok (.if_icmp .ge 34, 3) := by decide +kernel
theorem dX6_riseBut_14 : decode cX6_riseBut 14 = .ok (.iload_n 2, 1) := by decide +kernel
theorem dX6_riseBut_15 : decode cX6_riseBut 15 = .ok (.iload_n 1, 1) := by decide +kernel
theorem dX6_riseBut_16 : decode cX6_riseBut 16 = .ok (.iload_n 3, 1) := by decide +kernel
theorem dX6_riseBut_17 : decode cX6_riseBut 17 = .ok (.ishr, 1) := by decide +kernel
theorem dX6_riseBut_18 : decode cX6_riseBut 18 = .ok (.iconst 1, 1) := by decide +kernel
theorem dX6_riseBut_19 : decode cX6_riseBut 19 = .ok (.iand, 1) := by decide +kernel
theorem dX6_riseBut_20 : decode cX6_riseBut 20 = .ok (.iconst 1, 1) := by decide +kernel
theorem dX6_riseBut_21 : decode cX6_riseBut 21 = .ok (.if_icmp .ne 7, 3) := by decide +kernel
theorem dX6_riseBut_24 : decode cX6_riseBut 24 = .ok (.iconst 0, 1) := by decide +kernel
theorem dX6_riseBut_25 : decode cX6_riseBut 25 = .ok (.goto 12, 3) := by decide +kernel
theorem dX6_riseBut_28 : decode cX6_riseBut 28 = .ok (.aload_n 0, 1) := by decide +kernel
theorem dX6_riseBut_29 : decode cX6_riseBut 29 = .ok (.getfield 7, 3) := by decide +kernel
theorem dX6_riseBut_32 : decode cX6_riseBut 32 = .ok (.bipush 32, 2) := by decide +kernel
theorem dX6_riseBut_34 : decode cX6_riseBut 34 = .ok (.iload_n 3, 1) := by decide +kernel
theorem dX6_riseBut_35 : decode cX6_riseBut 35 = .ok (.iadd, 1) := by decide +kernel
theorem dX6_riseBut_36 : decode cX6_riseBut 36 = .ok (.iaload, 1) := by decide +kernel
theorem dX6_riseBut_37 : decode cX6_riseBut 37 = .ok (.iadd, 1) := by decide +kernel
theorem dX6_riseBut_38 : decode cX6_riseBut 38 = .ok (.istore_n 2, 1) := by decide +kernel
theorem dX6_riseBut_39 : decode cX6_riseBut 39 = .ok (.iinc 3 1, 3) := by decide +kernel
theorem dX6_riseBut_42 : decode cX6_riseBut 42 = .ok (.goto (-38), 3) := by decide +kernel
theorem dX6_riseBut_45 : decode cX6_riseBut 45 = .ok (.iload_n 2, 1) := by decide +kernel
theorem dX6_riseBut_46 : decode cX6_riseBut 46 = .ok (.ireturn, 1) := by decide +kernel
set_option maxRecDepth 20000 in
theorem ggX6_levels_X6_in : GoodIn wsX6_levels wsX6_in := goodIn_r _ [5] (by decide +kernel) (by decide +kernel)
set_option maxRecDepth 20000 in
theorem gX6_levels_X6_in : GoodIn wsX6_levels (va_wsS RX6 51 yX6_in wsX6_in) := goodIn_app (goodIn_of _ (by decide +kernel)) ggX6_levels_X6_in
set_option maxRecDepth 20000 in
theorem ggX6_levels_X6_error : GoodIn wsX6_levels wsX6_error := goodIn_r _ [9, 10, 11, 19, 20, 21, 22, 23, 24, 25, 26, 27, 28, 29, 30, 31, 32, 33, 34, 35, 36, 37, 38] (by decide +kernel) (by decide +kernel)
set_option maxRecDepth 20000 in
theorem gX6_levels_X6_error : GoodIn wsX6_levels (wsV RX6 55 RX6 yX6_error wsX6_error) := goodIn_app (goodIn_of _ (by decide +kernel)) ggX6_levels_X6_error
set_option maxRecDepth 20000 in
theorem ggX6_levels_X6_bitsOf : GoodIn wsX6_levels wsX6_bitsOf := goodIn_r _ [14] (by decide +kernel) (by decide +kernel)
set_option maxRecDepth 20000 in
theorem gX6_levels_X6_bitsOf : GoodIn wsX6_levels (va_wsS RX6 190 yX6_bitsOf wsX6_bitsOf) := goodIn_app (goodIn_of _ (by decide +kernel)) ggX6_levels_X6_bitsOf
set_option maxRecDepth 20000 in
theorem ggX6_levels_X6_riseBut : GoodIn wsX6_levels wsX6_riseBut := goodIn_r _ [18, 1, 19, 20, 21, 22, 23, 24, 25, 26, 27, 28, 29, 30, 31, 32, 33, 34, 35, 36, 37, 38] (by decide +kernel) (by decide +kernel)
set_option maxRecDepth 20000 in
theorem gX6_levels_X6_riseBut : GoodIn wsX6_levels (wsV RX6 193 RX6 yX6_riseBut wsX6_riseBut) := goodIn_app (goodIn_of _ (by decide +kernel)) ggX6_levels_X6_riseBut
theorem dX6_levels_0 : decode cX6_levels 0 = .ok (.iload_n 1, 1) := by decide +kernel
theorem dX6_levels_1 : decode cX6_levels 1 = .ok (.bipush (-126), 2) := by decide +kernel
theorem dX6_levels_3 : decode cX6_levels 3 = .ok (.bipush 126, 2) := by decide +kernel
theorem dX6_levels_5 : decode cX6_levels 5 = .ok (.invokestatic 51, 3) := by decide +kernel
theorem dX6_levels_8 : decode cX6_levels 8 = .ok (.ifCond .eq 12, 3) := by decide +kernel
theorem dX6_levels_11 : decode cX6_levels 11 = .ok (.iload_n 2, 1) := by decide +kernel
theorem dX6_levels_12 : decode cX6_levels 12 = .ok (.iconst 0, 1) := by decide +kernel
theorem dX6_levels_13 : decode cX6_levels 13 = .ok (.iconst 1, 1) := by decide +kernel
theorem dX6_levels_14 : decode cX6_levels 14 = .ok (.invokestatic 51, 3) := by decide +kernel
theorem dX6_levels_17 : decode cX6_levels 17 = .ok (.ifCond .ne 9, 3) := by decide +kernel
theorem dX6_levels_20 : decode cX6_levels 20 = .ok (.aload_n 0, 1) := by decide +kernel
theorem dX6_levels_21 : decode cX6_levels 21 = .ok (.iconst 1, 1) := by decide +kernel
theorem dX6_levels_22 : decode cX6_levels 22 = .ok (.invokevirtual 55, 3) := by decide +kernel
theorem dX6_levels_25 : decode cX6_levels 25 = .ok (.ireturn, 1) := by decide +kernel
theorem dX6_levels_26 : decode cX6_levels 26 = .ok (.iconst (-1), 1) := by decide +kernel
theorem dX6_levels_27 : decode cX6_levels 27 = .ok (.istore_n 3, 1) := by decide +kernel
theorem dX6_levels_28 : decode cX6_levels 28 = .ok (.iconst 0, 1) := by decide +kernel
theorem dX6_levels_29 : decode cX6_levels 29 = .ok (.istore 4, 2) := by decide +kernel
theorem dX6_levels_31 : decode cX6_levels 31 = .ok (.iload 4, 2) := by decide +kernel
theorem dX6_levels_33 : decode cX6_levels 33 = .ok (.iconst 1, 1) := by decide +kernel
theorem dX6_levels_34 : decode cX6_levels 34 = .ok (.aload_n 0, 1) := by decide +kernel
theorem dX6_levels_35 : decode cX6_levels 35 = .ok (.getfield 7, 3) := by decide +kernel
theorem dX6_levels_38 : decode cX6_levels 38 = .ok (.iconst 1, 1) := by decide +kernel
theorem dX6_levels_39 : decode cX6_levels 39 = .ok (.iaload, 1) := by decide +kernel
theorem dX6_levels_40 : decode cX6_levels 40 = .ok (.ishl, 1) := by decide +kernel
theorem dX6_levels_41 : decode cX6_levels 41 = .ok (.if_icmp .ge 55, 3) := by decide +kernel
theorem dX6_levels_44 : decode cX6_levels 44 = .ok (.iload_n 3, 1) := by decide +kernel
theorem dX6_levels_45 : decode cX6_levels 45 = .ok (.iconst (-1), 1) := by decide +kernel
theorem dX6_levels_46 : decode cX6_levels 46 = .ok (.if_icmp .eq 15, 3) := by decide +kernel
theorem dX6_levels_49 : decode cX6_levels 49 = .ok (.iload 4, 2) := by decide +kernel
theorem dX6_levels_51 : decode cX6_levels 51 = .ok (.invokestatic 190, 3) := by decide +kernel
theorem dX6_levels_54 : decode cX6_levels 54 = .ok (.iload_n 3, 1) := by decide +kernel
theorem dX6_levels_55 : decode cX6_levels 55 = .ok (.invokestatic 190, 3) := by decide +kernel
theorem dX6_levels_58 : decode cX6_levels 58 = .ok (.if_icmp .ge 7, 3) := by decide +kernel
theorem dX6_levels_61 : decode cX6_levels 61 = .ok (.iconst 1, 1) := by decide +kernel
theorem dX6_levels_62 : decode cX6_levels 62 = .ok (.goto 4, 3) := by decide +kernel
theorem dX6_levels_65 : decode cX6_levels 65 = .ok (.iconst 0, 1) := by decide +kernel
theorem dX6_levels_66 : decode cX6_levels 66 = .ok (.istore 5, 2) := by decide +kernel
theorem dX6_levels_68 : decode cX6_levels 68 = .ok (.iload 5, 2) := by decide +kernel
theorem dX6_levels_70 : decode cX6_levels 70 = .ok (.ifCond .eq 18, 3) := by decide +kernel
theorem dX6_levels_73 : decode cX6_levels 73 = .ok (.aload_n 0, 1) := by decide +kernel
theorem dX6_levels_74 : decode cX6_levels 74 = .ok (.iload 4, 2) := by decide +kernel
theorem dX6_levels_76 : decode cX6_levels 76 = .ok (.invokevirtual 193, 3) := by decide +kernel
theorem dX6_levels_79 : decode cX6_levels 79 = .ok (.iload_n 1, 1) := by decide +kernel
theorem dX6_levels_80 : decode cX6_levels 80 = .ok (.if_icmp .ne 8, 3) := by decide +kernel
theorem dX6_levels_83 : decode cX6_levels 83 = .ok (.iload 4, 2) := by decide +kernel
theorem dX6_levels_85 : decode cX6_levels 85 = .ok (.goto 4, 3) := by decide +kernel
theorem dX6_levels_88 : decode cX6_levels 88 = .ok (.iload_n 3, 1) := by decide +kernel
theorem dX6_levels_89 : decode cX6_levels 89 = .ok (.istore_n 3, 1) := by decide +kernel
theorem dX6_levels_90 : decode cX6_levels 90 = .ok (.iinc 4 1, 3) := by decide +kernel
theorem dX6_levels_93 : decode cX6_levels 93 = .ok (.goto (-62), 3) := by decide +kernel
theorem dX6_levels_96 : decode cX6_levels 96 = .ok (.iload_n 3, 1) := by decide +kernel
theorem dX6_levels_97 : decode cX6_levels 97 = .ok (.iconst (-1), 1) := by decide +kernel
theorem dX6_levels_98 : decode cX6_levels 98 = .ok (.if_icmp .ne 9, 3) := by decide +kernel
theorem dX6_levels_101 : decode cX6_levels 101 = .ok (.aload_n 0, 1) := by decide +kernel
theorem dX6_levels_102 : decode cX6_levels 102 = .ok (.iconst 2, 1) := by decide +kernel
theorem dX6_levels_103 : decode cX6_levels 103 = .ok (.invokevirtual 55, 3) := by decide +kernel
theorem dX6_levels_106 : decode cX6_levels 106 = .ok (.ireturn, 1) := by decide +kernel
theorem dX6_levels_107 : decode cX6_levels 107 = .ok (.iload_n 2, 1) := by decide +kernel
theorem dX6_levels_108 : decode cX6_levels 108 = .ok (.ifCond .ne 10, 3) := by decide +kernel
theorem dX6_levels_111 : decode cX6_levels 111 = .ok (.iload_n 3, 1) := by decide +kernel
theorem dX6_levels_112 : decode cX6_levels 112 = .ok (.invokestatic 190, 3) := by decide +kernel
theorem dX6_levels_115 : decode cX6_levels 115 = .ok (.goto 4, 3) := by decide +kernel
theorem dX6_levels_118 : decode cX6_levels 118 = .ok (.iload_n 3, 1) := by decide +kernel
theorem dX6_levels_119 : decode cX6_levels 119 = .ok (.ireturn, 1) := by decide +kernel
set_option maxRecDepth 20000 in
theorem ggX6_countsSo_X6_layDown : GoodIn wsX6_countsSo wsX6_layDown := goodIn_r _ [8, 9, 1, 58, 59, 60, 61, 62, 63, 64, 65, 66, 67, 68, 69, 70, 71, 72, 73, 74, 75, 76, 77] (by decide +kernel) (by decide +kernel)
set_option maxRecDepth 20000 in
theorem gX6_countsSo_X6_layDown : GoodIn wsX6_countsSo (wsV RX6 175 RX6 yX6_layDown wsX6_layDown) := goodIn_app (goodIn_of _ (by decide +kernel)) ggX6_countsSo_X6_layDown
set_option maxRecDepth 20000 in
theorem ggX6_countsSo_X6_minute : GoodIn wsX6_countsSo wsX6_minute := goodIn_r _ [13, 1, 14, 15, 16, 7, 17, 18, 19, 20, 21, 22, 23, 24, 25, 26, 27, 28, 29, 30, 31, 32, 33, 34, 35, 36, 37, 38, 39, 40, 41, 42, 43, 44, 45, 46, 47, 48, 49, 50, 51, 52, 53, 58, 59, 60, 61, 62, 63, 64, 65, 66, 67, 68, 69, 70, 71, 72, 73, 74, 75, 76, 77] (by decide +kernel) (by decide +kernel)
set_option maxRecDepth 20000 in
theorem gX6_countsSo_X6_minute : GoodIn wsX6_countsSo (wsV RX6 166 RX6 yX6_minute wsX6_minute) := goodIn_app (goodIn_of _ (by decide +kernel)) ggX6_countsSo_X6_minute
set_option maxRecDepth 20000 in
theorem ggX6_countsSo_X6_its : GoodIn wsX6_countsSo wsX6_its := goodIn_r _ [25, 1, 58, 59, 60, 61, 62, 63, 64, 65, 66, 67, 68, 69, 70, 71, 72, 73, 74, 75, 76, 77] (by decide +kernel) (by decide +kernel)
set_option maxRecDepth 20000 in
theorem gX6_countsSo_X6_its : GoodIn wsX6_countsSo (wsV RX6 115 RX6 yX6_its wsX6_its) := goodIn_app (goodIn_of _ (by decide +kernel)) ggX6_countsSo_X6_its
set_option maxRecDepth 20000 in
theorem ggX6_countsSo_X6_layBack : GoodIn wsX6_countsSo wsX6_layBack := goodIn_r _ [57, 1, 9, 58, 59, 60, 61, 62, 63, 64, 65, 66, 67, 68, 69, 70, 71, 72, 73, 74, 75, 76, 77] (by decide +kernel) (by decide +kernel)
set_option maxRecDepth 20000 in
theorem gX6_countsSo_X6_layBack : GoodIn wsX6_countsSo (wsV RX6 178 RX6 yX6_layBack wsX6_layBack) := goodIn_app (goodIn_of _ (by decide +kernel)) ggX6_countsSo_X6_layBack
theorem dX6_countsSo_0 : decode cX6_countsSo 0 = .ok (.aload_n 0, 1) := by decide +kernel
theorem dX6_countsSo_1 : decode cX6_countsSo 1 = .ok (.invokevirtual 175, 3) := by decide +kernel
theorem dX6_countsSo_4 : decode cX6_countsSo 4 = .ok (.aload_n 0, 1) := by decide +kernel
theorem dX6_countsSo_5 : decode cX6_countsSo 5 = .ok (.getfield 7, 3) := by decide +kernel
theorem dX6_countsSo_8 : decode cX6_countsSo 8 = .ok (.iconst 2, 1) := by decide +kernel
theorem dX6_countsSo_9 : decode cX6_countsSo 9 = .ok (.iload_n 3, 1) := by decide +kernel
theorem dX6_countsSo_10 : decode cX6_countsSo 10 = .ok (.iastore, 1) := by decide +kernel
theorem dX6_countsSo_11 : decode cX6_countsSo 11 = .ok (.iconst 1, 1) := by decide +kernel
theorem dX6_countsSo_12 : decode cX6_countsSo 12 = .ok (.istore 4, 2) := by decide +kernel
theorem dX6_countsSo_14 : decode cX6_countsSo 14 = .ok (.iconst 0, 1) := by decide +kernel
theorem dX6_countsSo_15 : decode cX6_countsSo 15 = .ok (.istore 5, 2) := by decide +kernel
theorem dX6_countsSo_17 : decode cX6_countsSo 17 = .ok (.iload 5, 2) := by decide +kernel
theorem dX6_countsSo_19 : decode cX6_countsSo 19 = .ok (.aload_n 0, 1) := by decide +kernel
theorem dX6_countsSo_20 : decode cX6_countsSo 20 = .ok (.getfield 37, 3) := by decide +kernel
theorem dX6_countsSo_23 : decode cX6_countsSo 23 = .ok (.iload_n 2, 1) := by decide +kernel
theorem dX6_countsSo_24 : decode cX6_countsSo 24 = .ok (.iaload, 1) := by decide +kernel
theorem dX6_countsSo_25 : decode cX6_countsSo 25 = .ok (.if_icmp .ge 46, 3) := by decide +kernel
theorem dX6_countsSo_28 : decode cX6_countsSo 28 = .ok (.iload 4, 2) := by decide +kernel
theorem dX6_countsSo_30 : decode cX6_countsSo 30 = .ok (.ifCond .eq 41, 3) := by decide +kernel
theorem dX6_countsSo_33 : decode cX6_countsSo 33 = .ok (.aload_n 0, 1) := by decide +kernel
theorem dX6_countsSo_34 : decode cX6_countsSo 34 = .ok (.invokevirtual 166, 3) := by decide +kernel
theorem dX6_countsSo_37 : decode cX6_countsSo 37 = .ok (.aload_n 0, 1) := by decide +kernel
theorem dX6_countsSo_38 : decode cX6_countsSo 38 = .ok (.iload_n 1, 1) := by decide +kernel
theorem dX6_countsSo_39 : decode cX6_countsSo 39 = .ok (.iconst 3, 1) := by decide +kernel
theorem dX6_countsSo_40 : decode cX6_countsSo 40 = .ok (.invokevirtual 115, 3) := by decide +kernel
theorem dX6_countsSo_43 : decode cX6_countsSo 43 = .ok (.aload_n 0, 1) := by decide +kernel
theorem dX6_countsSo_44 : decode cX6_countsSo 44 = .ok (.getfield 40, 3) := by decide +kernel
theorem dX6_countsSo_47 : decode cX6_countsSo 47 = .ok (.bipush 24, 2) := by decide +kernel
theorem dX6_countsSo_49 : decode cX6_countsSo 49 = .ok (.iload_n 2, 1) := by decide +kernel
theorem dX6_countsSo_50 : decode cX6_countsSo 50 = .ok (.imul, 1) := by decide +kernel
theorem dX6_countsSo_51 : decode cX6_countsSo 51 = .ok (.iload 5, 2) := by decide +kernel
theorem dX6_countsSo_53 : decode cX6_countsSo 53 = .ok (.iadd, 1) := by decide +kernel
theorem dX6_countsSo_54 : decode cX6_countsSo 54 = .ok (.iaload, 1) := by decide +kernel
theorem dX6_countsSo_55 : decode cX6_countsSo 55 = .ok (.if_icmp .ne 7, 3) := by decide +kernel
theorem dX6_countsSo_58 : decode cX6_countsSo 58 = .ok (.iconst 1, 1) := by decide +kernel
theorem dX6_countsSo_59 : decode cX6_countsSo 59 = .ok (.goto 4, 3) := by decide +kernel
theorem dX6_countsSo_62 : decode cX6_countsSo 62 = .ok (.iconst 0, 1) := by decide +kernel
theorem dX6_countsSo_63 : decode cX6_countsSo 63 = .ok (.istore 4, 2) := by decide +kernel
theorem dX6_countsSo_65 : decode cX6_countsSo 65 = .ok (.iinc 5 1, 3) := by decide +kernel
theorem dX6_countsSo_68 : decode cX6_countsSo 68 = .ok (.goto (-51), 3) := by decide +kernel
theorem dX6_countsSo_71 : decode cX6_countsSo 71 = .ok (.aload_n 0, 1) := by decide +kernel
theorem dX6_countsSo_72 : decode cX6_countsSo 72 = .ok (.invokevirtual 178, 3) := by decide +kernel
theorem dX6_countsSo_75 : decode cX6_countsSo 75 = .ok (.iload 4, 2) := by decide +kernel
theorem dX6_countsSo_77 : decode cX6_countsSo 77 = .ok (.ireturn, 1) := by decide +kernel
set_option maxRecDepth 20000 in
theorem ggX6_suspects_X6_isClimber : GoodIn wsX6_suspects wsX6_isClimber := goodIn_r _ [6, 1, 7, 8, 5, 9, 83, 84, 85, 86, 87, 88, 89, 90, 91, 92, 93, 94, 95, 96, 97, 98, 99, 100, 101, 102] (by decide +kernel) (by decide +kernel)
set_option maxRecDepth 20000 in
theorem gX6_suspects_X6_isClimber : GoodIn wsX6_suspects (wsV RX6 154 RX6 yX6_isClimber wsX6_isClimber) := goodIn_app (goodIn_of _ (by decide +kernel)) ggX6_suspects_X6_isClimber
set_option maxRecDepth 20000 in
theorem ggX6_suspects_X6_lacks : GoodIn wsX6_suspects wsX6_lacks := goodIn_r _ [13, 14, 15, 16, 5, 17, 7, 8, 9, 83, 84, 85, 86, 87, 88, 89, 90, 91, 92, 93, 94, 95, 96, 97, 98, 99, 100, 101, 102] (by decide +kernel) (by decide +kernel)
set_option maxRecDepth 20000 in
theorem gX6_suspects_X6_lacks : GoodIn wsX6_suspects (wsV RX6 196 RX6 yX6_lacks wsX6_lacks) := goodIn_app (goodIn_of _ (by decide +kernel)) ggX6_suspects_X6_lacks
set_option maxRecDepth 20000 in
theorem ggX6_suspects_X6_error : GoodIn wsX6_suspects wsX6_error := goodIn_r _ [21, 22, 23, 83, 84, 85, 86, 87, 88, 89, 90, 91, 92, 93, 94, 95, 96, 97, 98, 99, 100, 101, 102] (by decide +kernel) (by decide +kernel)
set_option maxRecDepth 20000 in
theorem gX6_suspects_X6_error : GoodIn wsX6_suspects (wsV RX6 55 RX6 yX6_error wsX6_error) := goodIn_app (goodIn_of _ (by decide +kernel)) ggX6_suspects_X6_error
set_option maxRecDepth 20000 in
theorem ggX6_suspects_X6_countsSo : GoodIn wsX6_suspects wsX6_countsSo := goodIn_r _ [27, 1, 28, 29, 30, 31, 32, 5, 33, 34, 35, 36, 37, 38, 39, 40, 41, 42, 43, 44, 45, 46, 47, 48, 49, 50, 51, 52, 53, 54, 55, 56, 57, 58, 59, 60, 61, 62, 63, 64, 65, 66, 67, 68, 69, 70, 71, 72, 73, 74, 75, 76, 77, 78, 79, 80, 81, 82, 83, 84, 85, 86, 87, 88, 89, 90, 91, 92, 93, 94, 95, 96, 97, 98, 99, 100, 101, 102] (by decide +kernel) (by decide +kernel)
set_option maxRecDepth 20000 in
theorem gX6_suspects_X6_countsSo : GoodIn wsX6_suspects (wsV RX6 199 RX6 yX6_countsSo wsX6_countsSo) := goodIn_app (goodIn_of _ (by decide +kernel)) ggX6_suspects_X6_countsSo
theorem dX6_suspects_0 : decode cX6_suspects 0 = .ok (.aload_n 0, 1) := by decide +kernel
theorem dX6_suspects_1 : decode cX6_suspects 1 = .ok (.iload_n 1, 1) := by decide +kernel
theorem dX6_suspects_2 : decode cX6_suspects 2 = .ok (.invokevirtual 154, 3) := by decide +kernel
theorem dX6_suspects_5 : decode cX6_suspects 5 = .ok (.ifCond .eq 11, 3) := by decide +kernel
theorem dX6_suspects_8 : decode cX6_suspects 8 = .ok (.aload_n 0, 1) := by decide +kernel
theorem dX6_suspects_9 : decode cX6_suspects 9 = .ok (.iload_n 2, 1) := by decide +kernel
theorem dX6_suspects_10 : decode cX6_suspects 10 = .ok (.invokevirtual 196, 3) := by decide +kernel
theorem dX6_suspects_13 : decode cX6_suspects 13 = .ok (.goto 4, 3) := by decide +kernel
theorem dX6_suspects_16 : decode cX6_suspects 16 = .ok (.iconst 1, 1) := by decide +kernel
theorem dX6_suspects_17 : decode cX6_suspects 17 = .ok (.istore_n 3, 1) := by decide +kernel
theorem dX6_suspects_18 : decode cX6_suspects 18 = .ok (.iload_n 3, 1) := by decide +kernel
theorem dX6_suspects_19 : decode cX6_suspects 19 = .ok (.ifCond .eq 9, 3) := by decide +kernel
theorem dX6_suspects_22 : decode cX6_suspects 22 = .ok (.aload_n 0, 1) := by decide +kernel
theorem dX6_suspects_23 : decode cX6_suspects 23 = .ok (.iload_n 3, 1) := by decide +kernel
theorem dX6_suspects_24 : decode cX6_suspects 24 = .ok (.invokevirtual 55, 3) := by decide +kernel
theorem dX6_suspects_27 : decode cX6_suspects 27 = .ok (.ireturn, 1) := by decide +kernel
theorem dX6_suspects_28 : decode cX6_suspects 28 = .ok (.iconst 0, 1) := by decide +kernel
theorem dX6_suspects_29 : decode cX6_suspects 29 = .ok (.istore 4, 2) := by decide +kernel
theorem dX6_suspects_31 : decode cX6_suspects 31 = .ok (.iconst 0, 1) := by decide +kernel
theorem dX6_suspects_32 : decode cX6_suspects 32 = .ok (.istore 5, 2) := by decide +kernel
theorem dX6_suspects_34 : decode cX6_suspects 34 = .ok (.iload 5, 2) := by decide +kernel
theorem dX6_suspects_36 : decode cX6_suspects 36 = .ok (.aload_n 0, 1) := by decide +kernel
theorem dX6_suspects_37 : decode cX6_suspects 37 = .ok (.getfield 7, 3) := by decide +kernel
theorem dX6_suspects_40 : decode cX6_suspects 40 = .ok (.iconst 1, 1) := by decide +kernel
theorem dX6_suspects_41 : decode cX6_suspects 41 = .ok (.iaload, 1) := by decide +kernel
theorem dX6_suspects_42 : decode cX6_suspects 42 = .ok (.if_icmp .gt 48, 3) := by decide +kernel
theorem dX6_suspects_45 : decode cX6_suspects 45 = .ok (.iload 4, 2) := by decide +kernel
theorem dX6_suspects_47 : decode cX6_suspects 47 = .ok (.aload_n 0, 1) := by decide +kernel
theorem dX6_suspects_48 : decode cX6_suspects 48 = .ok (.iload_n 1, 1) := by decide +kernel
theorem dX6_suspects_49 : decode cX6_suspects 49 = .ok (.iload_n 2, 1) := by decide +kernel
theorem dX6_suspects_50 : decode cX6_suspects 50 = .ok (.iload 5, 2) := by decide +kernel
theorem dX6_suspects_52 : decode cX6_suspects 52 = .ok (.aload_n 0, 1) := by decide +kernel
theorem dX6_suspects_53 : decode cX6_suspects 53 = .ok (.getfield 7, 3) := by decide +kernel
theorem dX6_suspects_56 : decode cX6_suspects 56 = .ok (.iconst 1, 1) := by decide +kernel
theorem dX6_suspects_57 : decode cX6_suspects 57 = .ok (.iaload, 1) := by decide +kernel
theorem dX6_suspects_58 : decode cX6_suspects 58 = .ok (.if_icmp .ge 8, 3) := by decide +kernel
theorem dX6_suspects_61 : decode cX6_suspects 61 = .ok (.iload 5, 2) := by decide +kernel
theorem dX6_suspects_63 : decode cX6_suspects 63 = .ok (.goto 4, 3) := by decide +kernel
theorem dX6_suspects_66 : decode cX6_suspects 66 = .ok (.iconst (-1), 1) := by decide +kernel
theorem dX6_suspects_67 : decode cX6_suspects 67 = .ok (.invokevirtual 199, 3) := by decide +kernel
theorem dX6_suspects_70 : decode cX6_suspects 70 = .ok (.ifCond .eq 10, 3) := by decide +kernel
theorem dX6_suspects_73 : decode cX6_suspects 73 = .ok (.iconst 1, 1) := by decide +kernel
theorem dX6_suspects_74 : decode cX6_suspects 74 = .ok (.iload 5, 2) := by decide +kernel
theorem dX6_suspects_76 : decode cX6_suspects 76 = .ok (.ishl, 1) := by decide +kernel
theorem dX6_suspects_77 : decode cX6_suspects 77 = .ok (.goto 4, 3) := by decide +kernel
theorem dX6_suspects_80 : decode cX6_suspects 80 = .ok (.iconst 0, 1) := by decide +kernel
theorem dX6_suspects_81 : decode cX6_suspects 81 = .ok (.ior, 1) := by decide +kernel
theorem dX6_suspects_82 : decode cX6_suspects 82 = .ok (.istore 4, 2) := by decide +kernel
theorem dX6_suspects_84 : decode cX6_suspects 84 = .ok (.iinc 5 1, 3) := by decide +kernel
theorem dX6_suspects_87 : decode cX6_suspects 87 = .ok (.goto (-53), 3) := by decide +kernel
theorem dX6_suspects_90 : decode cX6_suspects 90 = .ok (.iload 4, 2) := by decide +kernel
theorem dX6_suspects_92 : decode cX6_suspects 92 = .ok (.ireturn, 1) := by decide +kernel
set_option maxRecDepth 20000 in
theorem ggX6_best_X6_isClimber : GoodIn wsX6_best wsX6_isClimber := goodIn_r _ [5, 6, 7, 8, 4, 9, 73, 74, 75, 76, 77, 78, 79, 80, 81, 82, 83, 84, 85, 86, 87, 88, 89, 90, 91, 92] (by decide +kernel) (by decide +kernel)
set_option maxRecDepth 20000 in
theorem gX6_best_X6_isClimber : GoodIn wsX6_best (wsV RX6 154 RX6 yX6_isClimber wsX6_isClimber) := goodIn_app (goodIn_of _ (by decide +kernel)) ggX6_best_X6_isClimber
set_option maxRecDepth 20000 in
theorem ggX6_best_X6_in : GoodIn wsX6_best wsX6_in := goodIn_r _ [9] (by decide +kernel) (by decide +kernel)
set_option maxRecDepth 20000 in
theorem gX6_best_X6_in : GoodIn wsX6_best (va_wsS RX6 51 yX6_in wsX6_in) := goodIn_app (goodIn_of _ (by decide +kernel)) ggX6_best_X6_in
set_option maxRecDepth 20000 in
theorem ggX6_best_X6_error : GoodIn wsX6_best wsX6_error := goodIn_r _ [13, 14, 15, 73, 74, 75, 76, 77, 78, 79, 80, 81, 82, 83, 84, 85, 86, 87, 88, 89, 90, 91, 92] (by decide +kernel) (by decide +kernel)
set_option maxRecDepth 20000 in
theorem gX6_best_X6_error : GoodIn wsX6_best (wsV RX6 55 RX6 yX6_error wsX6_error) := goodIn_app (goodIn_of _ (by decide +kernel)) ggX6_best_X6_error
set_option maxRecDepth 20000 in
theorem ggX6_best_X6_layDown : GoodIn wsX6_best wsX6_layDown := goodIn_r _ [19, 20, 6, 73, 74, 75, 76, 77, 78, 79, 80, 81, 82, 83, 84, 85, 86, 87, 88, 89, 90, 91, 92] (by decide +kernel) (by decide +kernel)
set_option maxRecDepth 20000 in
theorem gX6_best_X6_layDown : GoodIn wsX6_best (wsV RX6 175 RX6 yX6_layDown wsX6_layDown) := goodIn_app (goodIn_of _ (by decide +kernel)) ggX6_best_X6_layDown
set_option maxRecDepth 20000 in
theorem ggX6_best_X6_its : GoodIn wsX6_best wsX6_its := goodIn_r _ [24, 6, 73, 74, 75, 76, 77, 78, 79, 80, 81, 82, 83, 84, 85, 86, 87, 88, 89, 90, 91, 92] (by decide +kernel) (by decide +kernel)
set_option maxRecDepth 20000 in
theorem gX6_best_X6_its : GoodIn wsX6_best (wsV RX6 115 RX6 yX6_its wsX6_its) := goodIn_app (goodIn_of _ (by decide +kernel)) ggX6_best_X6_its
set_option maxRecDepth 20000 in
theorem ggX6_best_X6_worthTold : GoodIn wsX6_best wsX6_worthTold := goodIn_r _ [28, 29, 30, 31, 32, 4, 33, 6, 34, 35, 36, 37, 38, 39, 40, 41, 42, 43, 44, 73, 74, 75, 76, 77, 78, 79, 80, 81, 82, 83, 84, 85, 86, 87, 88, 89, 90, 91, 92] (by decide +kernel) (by decide +kernel)
set_option maxRecDepth 20000 in
theorem gX6_best_X6_worthTold : GoodIn wsX6_best (wsV RX6 160 RX6 yX6_worthTold wsX6_worthTold) := goodIn_app (goodIn_of _ (by decide +kernel)) ggX6_best_X6_worthTold
set_option maxRecDepth 20000 in
theorem ggX6_best_X6_minute : GoodIn wsX6_best wsX6_minute := goodIn_r _ [48, 6, 49, 50, 51, 4, 52, 53, 54, 55, 56, 21, 22, 23, 24, 57, 58, 59, 60, 61, 62, 63, 64, 29, 30, 31, 32, 33, 34, 35, 36, 37, 38, 39, 40, 41, 42, 43, 44, 65, 66, 67, 68, 73, 74, 75, 76, 77, 78, 79, 80, 81, 82, 83, 84, 85, 86, 87, 88, 89, 90, 91, 92] (by decide +kernel) (by decide +kernel)
set_option maxRecDepth 20000 in
theorem gX6_best_X6_minute : GoodIn wsX6_best (wsV RX6 166 RX6 yX6_minute wsX6_minute) := goodIn_app (goodIn_of _ (by decide +kernel)) ggX6_best_X6_minute
set_option maxRecDepth 20000 in
theorem ggX6_best_X6_layBack : GoodIn wsX6_best wsX6_layBack := goodIn_r _ [72, 6, 20, 73, 74, 75, 76, 77, 78, 79, 80, 81, 82, 83, 84, 85, 86, 87, 88, 89, 90, 91, 92] (by decide +kernel) (by decide +kernel)
set_option maxRecDepth 20000 in
theorem gX6_best_X6_layBack : GoodIn wsX6_best (wsV RX6 178 RX6 yX6_layBack wsX6_layBack) := goodIn_app (goodIn_of _ (by decide +kernel)) ggX6_best_X6_layBack
theorem dX6_best_0 : decode cX6_best 0 = .ok (.aload_n 0, 1) := by decide +kernel
theorem dX6_best_1 : decode cX6_best 1 = .ok (.iload_n 1, 1) := by decide +kernel
theorem dX6_best_2 : decode cX6_best 2 = .ok (.invokevirtual 154, 3) := by decide +kernel
theorem dX6_best_5 : decode cX6_best 5 = .ok (.ifCond .eq 22, 3) := by decide +kernel
theorem dX6_best_8 : decode cX6_best 8 = .ok (.iload_n 2, 1) := by decide +kernel
theorem dX6_best_9 : decode cX6_best 9 = .ok (.iconst 0, 1) := by decide +kernel
theorem dX6_best_10 : decode cX6_best 10 = .ok (.bipush 100, 2) := by decide +kernel
theorem dX6_best_12 : decode cX6_best 12 = .ok (.invokestatic 51, 3) := by decide +kernel
theorem dX6_best_15 : decode cX6_best 15 = .ok (.ifCond .eq 12, 3) := by decide +kernel
theorem dX6_best_18 : decode cX6_best 18 = .ok (.iload_n 3, 1) := by decide +kernel
theorem dX6_best_19 : decode cX6_best 19 = .ok (.iconst 0, 1) := by decide +kernel
theorem dX6_best_20 : decode cX6_best 20 = .ok (.iconst 2, 1) := by decide +kernel
theorem dX6_best_21 : decode cX6_best 21 = .ok (.invokestatic 51, 3) := by decide +kernel
theorem dX6_best_24 : decode cX6_best 24 = .ok (.ifCond .ne 9, 3) := by decide +kernel
theorem dX6_best_27 : decode cX6_best 27 = .ok (.aload_n 0, 1) := by decide +kernel
theorem dX6_best_28 : decode cX6_best 28 = .ok (.iconst 1, 1) := by decide +kernel
theorem dX6_best_29 : decode cX6_best 29 = .ok (.invokevirtual 55, 3) := by decide +kernel
theorem dX6_best_32 : decode cX6_best 32 = .ok (.ireturn, 1) := by decide +kernel
theorem dX6_best_33 : decode cX6_best 33 = .ok (.aload_n 0, 1) := by decide +kernel
theorem dX6_best_34 : decode cX6_best 34 = .ok (.invokevirtual 175, 3) := by decide +kernel
theorem dX6_best_37 : decode cX6_best 37 = .ok (.iconst (-1), 1) := by decide +kernel
theorem dX6_best_38 : decode cX6_best 38 = .ok (.istore 4, 2) := by decide +kernel
theorem dX6_best_40 : decode cX6_best 40 = .ok (.iconst 0, 1) := by decide +kernel
theorem dX6_best_41 : decode cX6_best 41 = .ok (.istore 5, 2) := by decide +kernel
theorem dX6_best_43 : decode cX6_best 43 = .ok (.iconst 0, 1) := by decide +kernel
theorem dX6_best_44 : decode cX6_best 44 = .ok (.istore 6, 2) := by decide +kernel
theorem dX6_best_46 : decode cX6_best 46 = .ok (.iconst 0, 1) := by decide +kernel
theorem dX6_best_47 : decode cX6_best 47 = .ok (.istore 7, 2) := by decide +kernel
theorem dX6_best_49 : decode cX6_best 49 = .ok (.iload 7, 2) := by decide +kernel
theorem dX6_best_51 : decode cX6_best 51 = .ok (.iload_n 2, 1) := by decide +kernel
theorem dX6_best_52 : decode cX6_best 52 = .ok (.if_icmp .gt 55, 3) := by decide +kernel
theorem dX6_best_55 : decode cX6_best 55 = .ok (.aload_n 0, 1) := by decide +kernel
theorem dX6_best_56 : decode cX6_best 56 = .ok (.aload_n 0, 1) := by decide +kernel
theorem dX6_best_57 : decode cX6_best 57 = .ok (.iload_n 1, 1) := by decide +kernel
theorem dX6_best_58 : decode cX6_best 58 = .ok (.iconst 2, 1) := by decide +kernel
theorem dX6_best_59 : decode cX6_best 59 = .ok (.invokevirtual 115, 3) := by decide +kernel
theorem dX6_best_62 : decode cX6_best 62 = .ok (.aload_n 0, 1) := by decide +kernel
theorem dX6_best_63 : decode cX6_best 63 = .ok (.iload_n 1, 1) := by decide +kernel
theorem dX6_best_64 : decode cX6_best 64 = .ok (.iconst 3, 1) := by decide +kernel
theorem dX6_best_65 : decode cX6_best 65 = .ok (.invokevirtual 115, 3) := by decide +kernel
theorem dX6_best_68 : decode cX6_best 68 = .ok (.iload_n 1, 1) := by decide +kernel
theorem dX6_best_69 : decode cX6_best 69 = .ok (.invokevirtual 160, 3) := by decide +kernel
theorem dX6_best_72 : decode cX6_best 72 = .ok (.istore 8, 2) := by decide +kernel
theorem dX6_best_74 : decode cX6_best 74 = .ok (.iload 8, 2) := by decide +kernel
theorem dX6_best_76 : decode cX6_best 76 = .ok (.iload 4, 2) := by decide +kernel
theorem dX6_best_78 : decode cX6_best 78 = .ok (.if_icmp .le 19, 3) := by decide +kernel
theorem dX6_best_81 : decode cX6_best 81 = .ok (.iload 8, 2) := by decide +kernel
theorem dX6_best_83 : decode cX6_best 83 = .ok (.istore 4, 2) := by decide +kernel
theorem dX6_best_85 : decode cX6_best 85 = .ok (.iload 7, 2) := by decide +kernel
theorem dX6_best_87 : decode cX6_best 87 = .ok (.istore 5, 2) := by decide +kernel
theorem dX6_best_89 : decode cX6_best 89 = .ok (.aload_n 0, 1) := by decide +kernel
theorem dX6_best_90 : decode cX6_best 90 = .ok (.iload_n 1, 1) := by decide +kernel
theorem dX6_best_91 : decode cX6_best 91 = .ok (.iconst 2, 1) := by decide +kernel
theorem dX6_best_92 : decode cX6_best 92 = .ok (.invokevirtual 115, 3) := by decide +kernel
theorem dX6_best_95 : decode cX6_best 95 = .ok (.istore 6, 2) := by decide +kernel
theorem dX6_best_97 : decode cX6_best 97 = .ok (.aload_n 0, 1) := by decide +kernel
theorem dX6_best_98 : decode cX6_best 98 = .ok (.invokevirtual 166, 3) := by decide +kernel
theorem dX6_best_101 : decode cX6_best 101 = .ok (.iinc 7 1, 3) := by decide +kernel
theorem dX6_best_104 : decode cX6_best 104 = .ok (.goto (-55), 3) := by decide +kernel
theorem dX6_best_107 : decode cX6_best 107 = .ok (.aload_n 0, 1) := by decide +kernel
theorem dX6_best_108 : decode cX6_best 108 = .ok (.invokevirtual 178, 3) := by decide +kernel
theorem dX6_best_111 : decode cX6_best 111 = .ok (.iload_n 3, 1) := by decide +kernel
theorem dX6_best_112 : decode cX6_best 112 = .ok (.ifCond .ne 8, 3) := by decide +kernel
theorem dX6_best_115 : decode cX6_best 115 = .ok (.iload 4, 2) := by decide +kernel
theorem dX6_best_117 : decode cX6_best 117 = .ok (.goto 15, 3) := by decide +kernel
theorem dX6_best_120 : decode cX6_best 120 = .ok (.iload_n 3, 1) := by decide +kernel
theorem dX6_best_121 : decode cX6_best 121 = .ok (.iconst 1, 1) := by decide +kernel
theorem dX6_best_122 : decode cX6_best 122 = .ok (.if_icmp .ne 8, 3) := by decide +kernel
theorem dX6_best_125 : decode cX6_best 125 = .ok (.iload 5, 2) := by decide +kernel
theorem dX6_best_127 : decode cX6_best 127 = .ok (.goto 5, 3) := by decide +kernel
theorem dX6_best_130 : decode cX6_best 130 = .ok (.iload 6, 2) := by decide +kernel
theorem dX6_best_132 : decode cX6_best 132 = .ok (.ireturn, 1) := by decide +kernel
theorem dX6_divisor_0 : decode cX6_divisor 0 = .ok (.iload_n 0, 1) := by decide +kernel
theorem dX6_divisor_1 : decode cX6_divisor 1 = .ok (.istore_n 2, 1) := by decide +kernel
theorem dX6_divisor_2 : decode cX6_divisor 2 = .ok (.iload_n 1, 1) := by decide +kernel
theorem dX6_divisor_3 : decode cX6_divisor 3 = .ok (.istore_n 3, 1) := by decide +kernel
theorem dX6_divisor_4 : decode cX6_divisor 4 = .ok (.iload_n 3, 1) := by decide +kernel
theorem dX6_divisor_5 : decode cX6_divisor 5 = .ok (.ifCond .eq 16, 3) := by decide +kernel
theorem dX6_divisor_8 : decode cX6_divisor 8 = .ok (.iload_n 2, 1) := by decide +kernel
theorem dX6_divisor_9 : decode cX6_divisor 9 = .ok (.iload_n 3, 1) := by decide +kernel
theorem dX6_divisor_10 : decode cX6_divisor 10 = .ok (.irem, 1) := by decide +kernel
theorem dX6_divisor_11 : decode cX6_divisor 11 = .ok (.istore 4, 2) := by decide +kernel
theorem dX6_divisor_13 : decode cX6_divisor 13 = .ok (.iload_n 3, 1) := by decide +kernel
theorem dX6_divisor_14 : decode cX6_divisor 14 = .ok (.istore_n 2, 1) := by decide +kernel
theorem dX6_divisor_15 : decode cX6_divisor 15 = .ok (.iload 4, 2) := by decide +kernel
theorem dX6_divisor_17 : decode cX6_divisor 17 = .ok (.istore_n 3, 1) := by decide +kernel
theorem dX6_divisor_18 : decode cX6_divisor 18 = .ok (.goto (-14), 3) := by decide +kernel
theorem dX6_divisor_21 : decode cX6_divisor 21 = .ok (.iload_n 2, 1) := by decide +kernel
theorem dX6_divisor_22 : decode cX6_divisor 22 = .ok (.ireturn, 1) := by decide +kernel
set_option maxRecDepth 20000 in
theorem ggX6_odds_X6_isClimber : GoodIn wsX6_odds wsX6_isClimber := goodIn_r _ [6, 1, 7, 8, 5, 9, 76, 77, 78, 79, 80, 81, 82, 83, 84, 85, 86, 87, 88, 89, 90, 91, 92, 93, 94, 95] (by decide +kernel) (by decide +kernel)
set_option maxRecDepth 20000 in
theorem gX6_odds_X6_isClimber : GoodIn wsX6_odds (wsV RX6 154 RX6 yX6_isClimber wsX6_isClimber) := goodIn_app (goodIn_of _ (by decide +kernel)) ggX6_odds_X6_isClimber
set_option maxRecDepth 20000 in
theorem ggX6_odds_X6_in : GoodIn wsX6_odds wsX6_in := goodIn_r _ [9] (by decide +kernel) (by decide +kernel)
set_option maxRecDepth 20000 in
theorem gX6_odds_X6_in : GoodIn wsX6_odds (va_wsS RX6 51 yX6_in wsX6_in) := goodIn_app (goodIn_of _ (by decide +kernel)) ggX6_odds_X6_in
set_option maxRecDepth 20000 in
theorem ggX6_odds_X6_error : GoodIn wsX6_odds wsX6_error := goodIn_r _ [13, 14, 15, 76, 77, 78, 79, 80, 81, 82, 83, 84, 85, 86, 87, 88, 89, 90, 91, 92, 93, 94, 95] (by decide +kernel) (by decide +kernel)
set_option maxRecDepth 20000 in
theorem gX6_odds_X6_error : GoodIn wsX6_odds (wsV RX6 55 RX6 yX6_error wsX6_error) := goodIn_app (goodIn_of _ (by decide +kernel)) ggX6_odds_X6_error
set_option maxRecDepth 20000 in
theorem ggX6_odds_X6_its : GoodIn wsX6_odds wsX6_its := goodIn_r _ [19, 1, 76, 77, 78, 79, 80, 81, 82, 83, 84, 85, 86, 87, 88, 89, 90, 91, 92, 93, 94, 95] (by decide +kernel) (by decide +kernel)
set_option maxRecDepth 20000 in
theorem gX6_odds_X6_its : GoodIn wsX6_odds (wsV RX6 115 RX6 yX6_its wsX6_its) := goodIn_app (goodIn_of _ (by decide +kernel)) ggX6_odds_X6_its
set_option maxRecDepth 20000 in
theorem ggX6_odds_X6_lays1 : GoodIn wsX6_odds wsX6_lays1 := goodIn_r _ [23, 1, 76, 77, 78, 79, 80, 81, 82, 83, 84, 85, 86, 87, 88, 89, 90, 91, 92, 93, 94, 95] (by decide +kernel) (by decide +kernel)
set_option maxRecDepth 20000 in
theorem gX6_odds_X6_lays1 : GoodIn wsX6_odds (wsV RX6 134 RX6 yX6_lays1 wsX6_lays1) := goodIn_app (goodIn_of _ (by decide +kernel)) ggX6_odds_X6_lays1
set_option maxRecDepth 20000 in
theorem ggX6_odds_X6_meets : GoodIn wsX6_odds wsX6_meets := goodIn_r _ [27, 28, 29, 30, 5, 31, 32, 1, 16, 17, 18, 19, 33, 34, 35, 36, 37, 38, 39, 40, 41, 42, 43, 44, 45, 46, 47, 48, 49, 50, 51, 52, 53, 54, 55, 56, 57, 58, 59, 60, 61, 62, 63, 64, 65, 66, 67, 68, 20, 21, 22, 23, 69, 70, 71, 72, 76, 77, 78, 79, 80, 81, 82, 83, 84, 85, 86, 87, 88, 89, 90, 91, 92, 93, 94, 95] (by decide +kernel) (by decide +kernel)
set_option maxRecDepth 20000 in
theorem gX6_odds_X6_meets : GoodIn wsX6_odds (wsV RX6 181 RX6 yX6_meets wsX6_meets) := goodIn_app (goodIn_of _ (by decide +kernel)) ggX6_odds_X6_meets
set_option maxRecDepth 20000 in
theorem ggX6_odds_X6_divisor : GoodIn wsX6_odds wsX6_divisor := goodIn_r _ [75] (by decide +kernel) (by decide +kernel)
set_option maxRecDepth 20000 in
theorem gX6_odds_X6_divisor : GoodIn wsX6_odds (va_wsS RX6 202 yX6_divisor wsX6_divisor) := goodIn_app (goodIn_of _ (by decide +kernel)) ggX6_odds_X6_divisor
theorem dX6_odds_0 : decode cX6_odds 0 = .ok (.aload_n 0, 1) := by decide +kernel
theorem dX6_odds_1 : decode cX6_odds 1 = .ok (.iload_n 1, 1) := by decide +kernel
theorem dX6_odds_2 : decode cX6_odds 2 = .ok (.invokevirtual 154, 3) := by decide +kernel
theorem dX6_odds_5 : decode cX6_odds 5 = .ok (.ifCond .eq 36, 3) := by decide +kernel
theorem dX6_odds_8 : decode cX6_odds 8 = .ok (.aload_n 0, 1) := by decide +kernel
theorem dX6_odds_9 : decode cX6_odds 9 = .ok (.iload_n 2, 1) := by decide +kernel
theorem dX6_odds_10 : decode cX6_odds 10 = .ok (.invokevirtual 154, 3) := by decide +kernel
theorem dX6_odds_13 : decode cX6_odds 13 = .ok (.ifCond .eq 28, 3) := by decide +kernel
theorem dX6_odds_16 : decode cX6_odds 16 = .ok (.iload_n 1, 1) := by decide +kernel
theorem dX6_odds_17 : decode cX6_odds 17 = .ok (.iload_n 2, 1) := by decide +kernel
theorem dX6_odds_18 : decode cX6_odds 18 = .ok (.if_icmp .eq 23, 3) := by decide +kernel
theorem dX6_odds_21 : decode cX6_odds 21 = .ok (.iload_n 3, 1) := by decide +kernel
theorem dX6_odds_22 : decode cX6_odds 22 = .ok (.iconst 0, 1) := by decide +kernel
theorem dX6_odds_23 : decode cX6_odds 23 = .ok (.bipush 100, 2) := by decide +kernel
theorem dX6_odds_25 : decode cX6_odds 25 = .ok (.invokestatic 51, 3) := by decide +kernel
theorem dX6_odds_28 : decode cX6_odds 28 = .ok (.ifCond .eq 13, 3) := by decide +kernel
theorem dX6_odds_31 : decode cX6_odds 31 = .ok (.iload 4, 2) := by decide +kernel
theorem dX6_odds_33 : decode cX6_odds 33 = .ok (.iconst 0, 1) := by decide +kernel
theorem dX6_odds_34 : decode cX6_odds 34 = .ok (.iconst 1, 1) := by decide +kernel
theorem dX6_odds_35 : decode cX6_odds 35 = .ok (.invokestatic 51, 3) := by decide +kernel
theorem dX6_odds_38 : decode cX6_odds 38 = .ok (.ifCond .ne 9, 3) := by decide +kernel
theorem dX6_odds_41 : decode cX6_odds 41 = .ok (.aload_n 0, 1) := by decide +kernel
theorem dX6_odds_42 : decode cX6_odds 42 = .ok (.iconst 1, 1) := by decide +kernel
theorem dX6_odds_43 : decode cX6_odds 43 = .ok (.invokevirtual 55, 3) := by decide +kernel
theorem dX6_odds_46 : decode cX6_odds 46 = .ok (.ireturn, 1) := by decide +kernel
theorem dX6_odds_47 : decode cX6_odds 47 = .ok (.aload_n 0, 1) := by decide +kernel
theorem dX6_odds_48 : decode cX6_odds 48 = .ok (.iload_n 1, 1) := by decide +kernel
theorem dX6_odds_49 : decode cX6_odds 49 = .ok (.iconst 2, 1) := by decide +kernel
theorem dX6_odds_50 : decode cX6_odds 50 = .ok (.invokevirtual 115, 3) := by decide +kernel
theorem dX6_odds_53 : decode cX6_odds 53 = .ok (.istore 5, 2) := by decide +kernel
theorem dX6_odds_55 : decode cX6_odds 55 = .ok (.aload_n 0, 1) := by decide +kernel
theorem dX6_odds_56 : decode cX6_odds 56 = .ok (.getfield 7, 3) := by decide +kernel
theorem dX6_odds_59 : decode cX6_odds 59 = .ok (.iconst 1, 1) := by decide +kernel
theorem dX6_odds_60 : decode cX6_odds 60 = .ok (.iaload, 1) := by decide +kernel
theorem dX6_odds_61 : decode cX6_odds 61 = .ok (.istore 6, 2) := by decide +kernel
theorem dX6_odds_63 : decode cX6_odds 63 = .ok (.iconst 0, 1) := by decide +kernel
theorem dX6_odds_64 : decode cX6_odds 64 = .ok (.istore 7, 2) := by decide +kernel
theorem dX6_odds_66 : decode cX6_odds 66 = .ok (.iconst 0, 1) := by decide +kernel
theorem dX6_odds_67 : decode cX6_odds 67 = .ok (.istore 8, 2) := by decide +kernel
theorem dX6_odds_69 : decode cX6_odds 69 = .ok (.iload 8, 2) := by decide +kernel
theorem dX6_odds_71 : decode cX6_odds 71 = .ok (.iload 6, 2) := by decide +kernel
theorem dX6_odds_73 : decode cX6_odds 73 = .ok (.if_icmp .ge 38, 3) := by decide +kernel
theorem dX6_odds_76 : decode cX6_odds 76 = .ok (.aload_n 0, 1) := by decide +kernel
theorem dX6_odds_77 : decode cX6_odds 77 = .ok (.iload_n 1, 1) := by decide +kernel
theorem dX6_odds_78 : decode cX6_odds 78 = .ok (.iconst 2, 1) := by decide +kernel
theorem dX6_odds_79 : decode cX6_odds 79 = .ok (.iload 8, 2) := by decide +kernel
theorem dX6_odds_81 : decode cX6_odds 81 = .ok (.invokevirtual 134, 3) := by decide +kernel
theorem dX6_odds_84 : decode cX6_odds 84 = .ok (.iload 7, 2) := by decide +kernel
theorem dX6_odds_86 : decode cX6_odds 86 = .ok (.aload_n 0, 1) := by decide +kernel
theorem dX6_odds_87 : decode cX6_odds 87 = .ok (.iload_n 1, 1) := by decide +kernel
theorem dX6_odds_88 : decode cX6_odds 88 = .ok (.iload_n 2, 1) := by decide +kernel
theorem dX6_odds_89 : decode cX6_odds 89 = .ok (.iload_n 3, 1) := by decide +kernel
theorem dX6_odds_90 : decode cX6_odds 90 = .ok (.invokevirtual 181, 3) := by decide +kernel
theorem dX6_odds_93 : decode cX6_odds 93 = .ok (.iconst (-1), 1) := by decide +kernel
theorem dX6_odds_94 : decode cX6_odds 94 = .ok (.if_icmp .ne 7, 3) := by decide +kernel
theorem dX6_odds_97 : decode cX6_odds 97 = .ok (.iconst 0, 1) := by decide +kernel
theorem dX6_odds_98 : decode cX6_odds 98 = .ok (.goto 4, 3) := by decide +kernel
theorem dX6_odds_101 : decode cX6_odds 101 = .ok (.iconst 1, 1) := by decide +kernel
theorem dX6_odds_102 : decode cX6_odds 102 = .ok (.iadd, 1) := by decide +kernel
theorem dX6_odds_103 : decode cX6_odds 103 = .ok (.istore 7, 2) := by decide +kernel
theorem dX6_odds_105 : decode cX6_odds 105 = .ok (.iinc 8 1, 3) := by decide +kernel
theorem dX6_odds_108 : decode cX6_odds 108 = .ok (.goto (-39), 3) := by decide +kernel
theorem dX6_odds_111 : decode cX6_odds 111 = .ok (.aload_n 0, 1) := by decide +kernel
theorem dX6_odds_112 : decode cX6_odds 112 = .ok (.iload_n 1, 1) := by decide +kernel
theorem dX6_odds_113 : decode cX6_odds 113 = .ok (.iconst 2, 1) := by decide +kernel
theorem dX6_odds_114 : decode cX6_odds 114 = .ok (.iload 5, 2) := by decide +kernel
theorem dX6_odds_116 : decode cX6_odds 116 = .ok (.invokevirtual 134, 3) := by decide +kernel
theorem dX6_odds_119 : decode cX6_odds 119 = .ok (.iload 7, 2) := by decide +kernel
theorem dX6_odds_121 : decode cX6_odds 121 = .ok (.iload 6, 2) := by decide +kernel
theorem dX6_odds_123 : decode cX6_odds 123 = .ok (.invokestatic 202, 3) := by decide +kernel
theorem dX6_odds_126 : decode cX6_odds 126 = .ok (.istore 8, 2) := by decide +kernel
theorem dX6_odds_128 : decode cX6_odds 128 = .ok (.iload 4, 2) := by decide +kernel
theorem dX6_odds_130 : decode cX6_odds 130 = .ok (.ifCond .ne 11, 3) := by decide +kernel
theorem dX6_odds_133 : decode cX6_odds 133 = .ok (.iload 7, 2) := by decide +kernel
theorem dX6_odds_135 : decode cX6_odds 135 = .ok (.iload 8, 2) := by decide +kernel
theorem dX6_odds_137 : decode cX6_odds 137 = .ok (.idiv, 1) := by decide +kernel
theorem dX6_odds_138 : decode cX6_odds 138 = .ok (.goto 8, 3) := by decide +kernel
theorem dX6_odds_141 : decode cX6_odds 141 = .ok (.iload 6, 2) := by decide +kernel
theorem dX6_odds_143 : decode cX6_odds 143 = .ok (.iload 8, 2) := by decide +kernel
theorem dX6_odds_145 : decode cX6_odds 145 = .ok (.idiv, 1) := by decide +kernel
theorem dX6_odds_146 : decode cX6_odds 146 = .ok (.ireturn, 1) := by decide +kernel
theorem dX6_begins_0 : decode cX6_begins 0 = .ok (.aload_n 0, 1) := by decide +kernel
theorem dX6_begins_1 : decode cX6_begins 1 = .ok (.getfield 205, 3) := by decide +kernel
theorem dX6_begins_4 : decode cX6_begins 4 = .ok (.bipush 30, 2) := by decide +kernel
theorem dX6_begins_6 : decode cX6_begins 6 = .ok (.if_icmp .ge 23, 3) := by decide +kernel
theorem dX6_begins_9 : decode cX6_begins 9 = .ok (.aload_n 0, 1) := by decide +kernel
theorem dX6_begins_10 : decode cX6_begins 10 = .ok (.getfield 31, 3) := by decide +kernel
theorem dX6_begins_13 : decode cX6_begins 13 = .ok (.aload_n 0, 1) := by decide +kernel
theorem dX6_begins_14 : decode cX6_begins 14 = .ok (.getfield 205, 3) := by decide +kernel
theorem dX6_begins_17 : decode cX6_begins 17 = .ok (.iload_n 1, 1) := by decide +kernel
theorem dX6_begins_18 : decode cX6_begins 18 = .ok (.iastore, 1) := by decide +kernel
theorem dX6_begins_19 : decode cX6_begins 19 = .ok (.aload_n 0, 1) := by decide +kernel
theorem dX6_begins_20 : decode cX6_begins 20 = .ok (.dup, 1) := by decide +kernel
theorem dX6_begins_21 : decode cX6_begins 21 = .ok (.getfield 205, 3) := by decide +kernel
theorem dX6_begins_24 : decode cX6_begins 24 = .ok (.iconst 1, 1) := by decide +kernel
theorem dX6_begins_25 : decode cX6_begins 25 = .ok (.iadd, 1) := by decide +kernel
theorem dX6_begins_26 : decode cX6_begins 26 = .ok (.putfield 205, 3) := by decide +kernel
theorem dX6_begins_29 : decode cX6_begins 29 = .ok (.return_, 1) := by decide +kernel
theorem dX6_above_0 : decode cX6_above 0 = .ok (.iload_n 0, 1) := by decide +kernel
theorem dX6_above_1 : decode cX6_above 1 = .ok (.iconst 4, 1) := by decide +kernel
theorem dX6_above_2 : decode cX6_above 2 = .ok (.if_icmp .ne 7, 3) := by decide +kernel
theorem dX6_above_5 : decode cX6_above 5 = .ok (.iconst 1, 1) := by decide +kernel
theorem dX6_above_6 : decode cX6_above 6 = .ok (.goto 13, 3) := by decide +kernel
theorem dX6_above_9 : decode cX6_above 9 = .ok (.iload_n 0, 1) := by decide +kernel
theorem dX6_above_10 : decode cX6_above 10 = .ok (.iconst 5, 1) := by decide +kernel
theorem dX6_above_11 : decode cX6_above 11 = .ok (.if_icmp .ne 7, 3) := by decide +kernel
theorem dX6_above_14 : decode cX6_above 14 = .ok (.iconst 2, 1) := by decide +kernel
theorem dX6_above_15 : decode cX6_above 15 = .ok (.goto 4, 3) := by decide +kernel
theorem dX6_above_18 : decode cX6_above 18 = .ok (.iconst 0, 1) := by decide +kernel
theorem dX6_above_19 : decode cX6_above 19 = .ok (.ireturn, 1) := by decide +kernel
set_option maxRecDepth 20000 in
theorem ggX6_kindNow_X6_its : GoodIn wsX6_kindNow wsX6_its := goodIn_r _ [6, 7, 8, 9, 10, 11, 12, 13, 14, 15, 16, 17, 18, 19, 20, 21, 22, 23, 24, 25, 26, 27] (by decide +kernel) (by decide +kernel)
set_option maxRecDepth 20000 in
theorem gX6_kindNow_X6_its : GoodIn wsX6_kindNow (wsV RX6 115 RX6 yX6_its wsX6_its) := goodIn_app (goodIn_of _ (by decide +kernel)) ggX6_kindNow_X6_its
theorem dX6_kindNow_0 : decode cX6_kindNow 0 = .ok (.aload_n 0, 1) := by decide +kernel
theorem dX6_kindNow_1 : decode cX6_kindNow 1 = .ok (.aload_n 0, 1) := by decide +kernel
theorem dX6_kindNow_2 : decode cX6_kindNow 2 = .ok (.getfield 208, 3) := by decide +kernel
theorem dX6_kindNow_5 : decode cX6_kindNow 5 = .ok (.iconst 0, 1) := by decide +kernel
theorem dX6_kindNow_6 : decode cX6_kindNow 6 = .ok (.invokevirtual 115, 3) := by decide +kernel
theorem dX6_kindNow_9 : decode cX6_kindNow 9 = .ok (.ireturn, 1) := by decide +kernel
set_option maxRecDepth 20000 in
theorem ggX6_mNow_X6_its : GoodIn wsX6_mNow wsX6_its := goodIn_r _ [6, 7, 8, 9, 10, 11, 12, 13, 14, 15, 16, 17, 18, 19, 20, 21, 22, 23, 24, 25, 26, 27] (by decide +kernel) (by decide +kernel)
set_option maxRecDepth 20000 in
theorem gX6_mNow_X6_its : GoodIn wsX6_mNow (wsV RX6 115 RX6 yX6_its wsX6_its) := goodIn_app (goodIn_of _ (by decide +kernel)) ggX6_mNow_X6_its
theorem dX6_mNow_0 : decode cX6_mNow 0 = .ok (.aload_n 0, 1) := by decide +kernel
theorem dX6_mNow_1 : decode cX6_mNow 1 = .ok (.aload_n 0, 1) := by decide +kernel
theorem dX6_mNow_2 : decode cX6_mNow 2 = .ok (.getfield 208, 3) := by decide +kernel
theorem dX6_mNow_5 : decode cX6_mNow 5 = .ok (.iconst 1, 1) := by decide +kernel
theorem dX6_mNow_6 : decode cX6_mNow 6 = .ok (.invokevirtual 115, 3) := by decide +kernel
theorem dX6_mNow_9 : decode cX6_mNow 9 = .ok (.ireturn, 1) := by decide +kernel
set_option maxRecDepth 20000 in
theorem ggX6_pantsAs_X6_begins : GoodIn wsX6_pantsAs wsX6_begins := goodIn_r _ [6, 7, 8, 15, 16, 17, 18, 19, 20, 21, 22, 23, 24, 25, 26, 27, 28, 29, 30, 31, 32, 33, 34] (by decide +kernel) (by decide +kernel)
set_option maxRecDepth 20000 in
theorem gX6_pantsAs_X6_begins : GoodIn wsX6_pantsAs (wsV RX6 211 RX6 yX6_begins wsX6_begins) := goodIn_app (goodIn_of _ (by decide +kernel)) ggX6_pantsAs_X6_begins
set_option maxRecDepth 20000 in
theorem ggX6_pantsAs_X6_above : GoodIn wsX6_pantsAs wsX6_above := goodIn_r _ [11] (by decide +kernel) (by decide +kernel)
set_option maxRecDepth 20000 in
theorem gX6_pantsAs_X6_above : GoodIn wsX6_pantsAs (va_wsS RX6 157 yX6_above wsX6_above) := goodIn_app (goodIn_of _ (by decide +kernel)) ggX6_pantsAs_X6_above
set_option maxRecDepth 20000 in
theorem ggX6_pantsAs_X6_pantsAs : GoodIn wsX6_pantsAs wsX6_pantsAs := goodIn_r _ [0, 1, 2, 3, 4, 5, 6, 7, 8, 9, 10, 11, 12, 13, 14, 15, 16, 17, 18, 19, 20, 21, 22, 23, 24, 25, 26, 27, 28, 29, 30, 31, 32, 33, 34] (by decide +kernel) (by decide +kernel)
set_option maxRecDepth 20000 in
theorem gX6_pantsAs_X6_pantsAs : GoodIn wsX6_pantsAs (wsV RX6 214 RX6 yX6_pantsAs wsX6_pantsAs) := goodIn_app (goodIn_of _ (by decide +kernel)) ggX6_pantsAs_X6_pantsAs
theorem dX6_pantsAs_0 : decode cX6_pantsAs 0 = .ok (.iload_n 1, 1) := by decide +kernel
theorem dX6_pantsAs_1 : decode cX6_pantsAs 1 = .ok (.tableswitch 101 0 6 #[43, 56, 101, 101, 74, 101, 92], 43) := by decide +kernel
theorem dX6_pantsAs_44 : decode cX6_pantsAs 44 = .ok (.aload_n 0, 1) := by decide +kernel
theorem dX6_pantsAs_45 : decode cX6_pantsAs 45 = .ok (.bipush 10, 2) := by decide +kernel
theorem dX6_pantsAs_47 : decode cX6_pantsAs 47 = .ok (.invokevirtual 211, 3) := by decide +kernel
theorem dX6_pantsAs_50 : decode cX6_pantsAs 50 = .ok (.iload_n 2, 1) := by decide +kernel
theorem dX6_pantsAs_51 : decode cX6_pantsAs 51 = .ok (.aload_n 0, 1) := by decide +kernel
theorem dX6_pantsAs_52 : decode cX6_pantsAs 52 = .ok (.getfield 208, 3) := by decide +kernel
theorem dX6_pantsAs_55 : decode cX6_pantsAs 55 = .ok (.iadd, 1) := by decide +kernel
theorem dX6_pantsAs_56 : decode cX6_pantsAs 56 = .ok (.ireturn, 1) := by decide +kernel
theorem dX6_pantsAs_57 : decode cX6_pantsAs 57 = .ok (.aload_n 0, 1) := by decide +kernel
theorem dX6_pantsAs_58 : decode cX6_pantsAs 58 = .ok (.bipush 20, 2) := by decide +kernel
theorem dX6_pantsAs_60 : decode cX6_pantsAs 60 = .ok (.invokevirtual 211, 3) := by decide +kernel
theorem dX6_pantsAs_63 : decode cX6_pantsAs 63 = .ok (.aload_n 0, 1) := by decide +kernel
theorem dX6_pantsAs_64 : decode cX6_pantsAs 64 = .ok (.iconst 1, 1) := by decide +kernel
theorem dX6_pantsAs_65 : decode cX6_pantsAs 65 = .ok (.invokestatic 157, 3) := by decide +kernel
theorem dX6_pantsAs_68 : decode cX6_pantsAs 68 = .ok (.iload_n 2, 1) := by decide +kernel
theorem dX6_pantsAs_69 : decode cX6_pantsAs 69 = .ok (.invokevirtual 214, 3) := by decide +kernel
theorem dX6_pantsAs_72 : decode cX6_pantsAs 72 = .ok (.iconst 4, 1) := by decide +kernel
theorem dX6_pantsAs_73 : decode cX6_pantsAs 73 = .ok (.isub, 1) := by decide +kernel
theorem dX6_pantsAs_74 : decode cX6_pantsAs 74 = .ok (.ireturn, 1) := by decide +kernel
theorem dX6_pantsAs_75 : decode cX6_pantsAs 75 = .ok (.aload_n 0, 1) := by decide +kernel
theorem dX6_pantsAs_76 : decode cX6_pantsAs 76 = .ok (.bipush 50, 2) := by decide +kernel
theorem dX6_pantsAs_78 : decode cX6_pantsAs 78 = .ok (.invokevirtual 211, 3) := by decide +kernel
theorem dX6_pantsAs_81 : decode cX6_pantsAs 81 = .ok (.aload_n 0, 1) := by decide +kernel
theorem dX6_pantsAs_82 : decode cX6_pantsAs 82 = .ok (.iconst 4, 1) := by decide +kernel
theorem dX6_pantsAs_83 : decode cX6_pantsAs 83 = .ok (.invokestatic 157, 3) := by decide +kernel
theorem dX6_pantsAs_86 : decode cX6_pantsAs 86 = .ok (.iload_n 2, 1) := by decide +kernel
theorem dX6_pantsAs_87 : decode cX6_pantsAs 87 = .ok (.invokevirtual 214, 3) := by decide +kernel
theorem dX6_pantsAs_90 : decode cX6_pantsAs 90 = .ok (.iconst 3, 1) := by decide +kernel
theorem dX6_pantsAs_91 : decode cX6_pantsAs 91 = .ok (.imul, 1) := by decide +kernel
theorem dX6_pantsAs_92 : decode cX6_pantsAs 92 = .ok (.ireturn, 1) := by decide +kernel
theorem dX6_pantsAs_93 : decode cX6_pantsAs 93 = .ok (.aload_n 0, 1) := by decide +kernel
theorem dX6_pantsAs_94 : decode cX6_pantsAs 94 = .ok (.bipush 70, 2) := by decide +kernel
theorem dX6_pantsAs_96 : decode cX6_pantsAs 96 = .ok (.invokevirtual 211, 3) := by decide +kernel
theorem dX6_pantsAs_99 : decode cX6_pantsAs 99 = .ok (.bipush 9, 2) := by decide +kernel
theorem dX6_pantsAs_101 : decode cX6_pantsAs 101 = .ok (.ireturn, 1) := by decide +kernel
theorem dX6_pantsAs_102 : decode cX6_pantsAs 102 = .ok (.aload_n 0, 1) := by decide +kernel
theorem dX6_pantsAs_103 : decode cX6_pantsAs 103 = .ok (.iload_n 1, 1) := by decide +kernel
theorem dX6_pantsAs_104 : decode cX6_pantsAs 104 = .ok (.invokestatic 157, 3) := by decide +kernel
theorem dX6_pantsAs_107 : decode cX6_pantsAs 107 = .ok (.iload_n 2, 1) := by decide +kernel
theorem dX6_pantsAs_108 : decode cX6_pantsAs 108 = .ok (.invokevirtual 214, 3) := by decide +kernel
theorem dX6_pantsAs_111 : decode cX6_pantsAs 111 = .ok (.ireturn, 1) := by decide +kernel
set_option maxRecDepth 20000 in
theorem ggX6_countsAs_X6_begins : GoodIn wsX6_countsAs wsX6_begins := goodIn_r _ [5, 6, 7, 32, 33, 34, 35, 36, 37, 38, 39, 40, 41, 42, 43, 44, 45, 46, 47, 48, 49, 50, 51] (by decide +kernel) (by decide +kernel)
set_option maxRecDepth 20000 in
theorem gX6_countsAs_X6_begins : GoodIn wsX6_countsAs (wsV RX6 211 RX6 yX6_begins wsX6_begins) := goodIn_app (goodIn_of _ (by decide +kernel)) ggX6_countsAs_X6_begins
set_option maxRecDepth 20000 in
theorem ggX6_countsAs_X6_kindNow : GoodIn wsX6_countsAs wsX6_kindNow := goodIn_r _ [11, 12, 13, 14, 15, 4, 16, 17, 32, 33, 34, 35, 36, 37, 38, 39, 40, 41, 42, 43, 44, 45, 46, 47, 48, 49, 50, 51] (by decide +kernel) (by decide +kernel)
set_option maxRecDepth 20000 in
theorem gX6_countsAs_X6_kindNow : GoodIn wsX6_countsAs (wsV RX6 217 RX6 yX6_kindNow wsX6_kindNow) := goodIn_app (goodIn_of _ (by decide +kernel)) ggX6_countsAs_X6_kindNow
set_option maxRecDepth 20000 in
theorem ggX6_countsAs_X6_pantsAs : GoodIn wsX6_countsAs wsX6_pantsAs := goodIn_r _ [21, 12, 1, 2, 3, 4, 5, 6, 7, 22, 23, 24, 18, 19, 20, 32, 33, 34, 35, 36, 37, 38, 39, 40, 41, 42, 43, 44, 45, 46, 47, 48, 49, 50, 51] (by decide +kernel) (by decide +kernel)
set_option maxRecDepth 20000 in
theorem gX6_countsAs_X6_pantsAs : GoodIn wsX6_countsAs (wsV RX6 214 RX6 yX6_pantsAs wsX6_pantsAs) := goodIn_app (goodIn_of _ (by decide +kernel)) ggX6_countsAs_X6_pantsAs
set_option maxRecDepth 20000 in
theorem ggX6_countsAs_X6_above : GoodIn wsX6_countsAs wsX6_above := goodIn_r _ [24] (by decide +kernel) (by decide +kernel)
set_option maxRecDepth 20000 in
theorem gX6_countsAs_X6_above : GoodIn wsX6_countsAs (va_wsS RX6 157 yX6_above wsX6_above) := goodIn_app (goodIn_of _ (by decide +kernel)) ggX6_countsAs_X6_above
set_option maxRecDepth 20000 in
theorem ggX6_countsAs_X6_countsAs : GoodIn wsX6_countsAs wsX6_countsAs := goodIn_r _ [0, 1, 2, 3, 4, 5, 6, 7, 8, 9, 10, 11, 12, 13, 14, 15, 16, 17, 18, 19, 20, 21, 22, 23, 24, 25, 26, 27, 28, 29, 30, 31, 32, 33, 34, 35, 36, 37, 38, 39, 40, 41, 42, 43, 44, 45, 46, 47, 48, 49, 50, 51] (by decide +kernel) (by decide +kernel)
set_option maxRecDepth 20000 in
theorem gX6_countsAs_X6_countsAs : GoodIn wsX6_countsAs (wsV RX6 220 RX6 yX6_countsAs wsX6_countsAs) := goodIn_app (goodIn_of _ (by decide +kernel)) ggX6_countsAs_X6_countsAs
set_option maxRecDepth 20000 in
theorem ggX6_countsAs_X6_mNow : GoodIn wsX6_countsAs wsX6_mNow := goodIn_r _ [31, 12, 13, 14, 15, 4, 16, 17, 32, 33, 34, 35, 36, 37, 38, 39, 40, 41, 42, 43, 44, 45, 46, 47, 48, 49, 50, 51] (by decide +kernel) (by decide +kernel)
set_option maxRecDepth 20000 in
theorem gX6_countsAs_X6_mNow : GoodIn wsX6_countsAs (wsV RX6 223 RX6 yX6_mNow wsX6_mNow) := goodIn_app (goodIn_of _ (by decide +kernel)) ggX6_countsAs_X6_mNow
theorem dX6_countsAs_0 : decode cX6_countsAs 0 = .ok (.iload_n 1, 1) := by decide +kernel
theorem dX6_countsAs_1 : decode cX6_countsAs 1 = .ok (.tableswitch 119 0 6 #[43, 119, 61, 119, 119, 79, 97], 43) := by decide +kernel
theorem dX6_countsAs_44 : decode cX6_countsAs 44 = .ok (.aload_n 0, 1) := by decide +kernel
theorem dX6_countsAs_45 : decode cX6_countsAs 45 = .ok (.bipush 11, 2) := by decide +kernel
theorem dX6_countsAs_47 : decode cX6_countsAs 47 = .ok (.invokevirtual 211, 3) := by decide +kernel
theorem dX6_countsAs_50 : decode cX6_countsAs 50 = .ok (.aload_n 0, 1) := by decide +kernel
theorem dX6_countsAs_51 : decode cX6_countsAs 51 = .ok (.aload_n 0, 1) := by decide +kernel
theorem dX6_countsAs_52 : decode cX6_countsAs 52 = .ok (.invokevirtual 217, 3) := by decide +kernel
theorem dX6_countsAs_55 : decode cX6_countsAs 55 = .ok (.iload_n 2, 1) := by decide +kernel
theorem dX6_countsAs_56 : decode cX6_countsAs 56 = .ok (.invokevirtual 214, 3) := by decide +kernel
theorem dX6_countsAs_59 : decode cX6_countsAs 59 = .ok (.iconst 2, 1) := by decide +kernel
theorem dX6_countsAs_60 : decode cX6_countsAs 60 = .ok (.imul, 1) := by decide +kernel
theorem dX6_countsAs_61 : decode cX6_countsAs 61 = .ok (.ireturn, 1) := by decide +kernel
theorem dX6_countsAs_62 : decode cX6_countsAs 62 = .ok (.aload_n 0, 1) := by decide +kernel
theorem dX6_countsAs_63 : decode cX6_countsAs 63 = .ok (.bipush 30, 2) := by decide +kernel
theorem dX6_countsAs_65 : decode cX6_countsAs 65 = .ok (.invokevirtual 211, 3) := by decide +kernel
theorem dX6_countsAs_68 : decode cX6_countsAs 68 = .ok (.iconst 0, 1) := by decide +kernel
theorem dX6_countsAs_69 : decode cX6_countsAs 69 = .ok (.aload_n 0, 1) := by decide +kernel
theorem dX6_countsAs_70 : decode cX6_countsAs 70 = .ok (.iconst 2, 1) := by decide +kernel
theorem dX6_countsAs_71 : decode cX6_countsAs 71 = .ok (.invokestatic 157, 3) := by decide +kernel
theorem dX6_countsAs_74 : decode cX6_countsAs 74 = .ok (.iload_n 2, 1) := by decide +kernel
theorem dX6_countsAs_75 : decode cX6_countsAs 75 = .ok (.invokevirtual 220, 3) := by decide +kernel
theorem dX6_countsAs_78 : decode cX6_countsAs 78 = .ok (.isub, 1) := by decide +kernel
theorem dX6_countsAs_79 : decode cX6_countsAs 79 = .ok (.ireturn, 1) := by decide +kernel
theorem dX6_countsAs_80 : decode cX6_countsAs 80 = .ok (.aload_n 0, 1) := by decide +kernel
theorem dX6_countsAs_81 : decode cX6_countsAs 81 = .ok (.bipush 60, 2) := by decide +kernel
theorem dX6_countsAs_83 : decode cX6_countsAs 83 = .ok (.invokevirtual 211, 3) := by decide +kernel
theorem dX6_countsAs_86 : decode cX6_countsAs 86 = .ok (.aload_n 0, 1) := by decide +kernel
theorem dX6_countsAs_87 : decode cX6_countsAs 87 = .ok (.iconst 5, 1) := by decide +kernel
theorem dX6_countsAs_88 : decode cX6_countsAs 88 = .ok (.invokestatic 157, 3) := by decide +kernel
theorem dX6_countsAs_91 : decode cX6_countsAs 91 = .ok (.iload_n 2, 1) := by decide +kernel
theorem dX6_countsAs_92 : decode cX6_countsAs 92 = .ok (.iconst 1, 1) := by decide +kernel
theorem dX6_countsAs_93 : decode cX6_countsAs 93 = .ok (.iadd, 1) := by decide +kernel
theorem dX6_countsAs_94 : decode cX6_countsAs 94 = .ok (.invokevirtual 220, 3) := by decide +kernel
theorem dX6_countsAs_97 : decode cX6_countsAs 97 = .ok (.ireturn, 1) := by decide +kernel
theorem dX6_countsAs_98 : decode cX6_countsAs 98 = .ok (.aload_n 0, 1) := by decide +kernel
theorem dX6_countsAs_99 : decode cX6_countsAs 99 = .ok (.bipush 71, 2) := by decide +kernel
theorem dX6_countsAs_101 : decode cX6_countsAs 101 = .ok (.invokevirtual 211, 3) := by decide +kernel
theorem dX6_countsAs_104 : decode cX6_countsAs 104 = .ok (.aload_n 0, 1) := by decide +kernel
theorem dX6_countsAs_105 : decode cX6_countsAs 105 = .ok (.bipush 6, 2) := by decide +kernel
theorem dX6_countsAs_107 : decode cX6_countsAs 107 = .ok (.invokestatic 157, 3) := by decide +kernel
theorem dX6_countsAs_110 : decode cX6_countsAs 110 = .ok (.iload_n 2, 1) := by decide +kernel
theorem dX6_countsAs_111 : decode cX6_countsAs 111 = .ok (.invokevirtual 220, 3) := by decide +kernel
theorem dX6_countsAs_114 : decode cX6_countsAs 114 = .ok (.aload_n 0, 1) := by decide +kernel
theorem dX6_countsAs_115 : decode cX6_countsAs 115 = .ok (.invokevirtual 223, 3) := by decide +kernel
theorem dX6_countsAs_118 : decode cX6_countsAs 118 = .ok (.iadd, 1) := by decide +kernel
theorem dX6_countsAs_119 : decode cX6_countsAs 119 = .ok (.ireturn, 1) := by decide +kernel
theorem dX6_countsAs_120 : decode cX6_countsAs 120 = .ok (.aload_n 0, 1) := by decide +kernel
theorem dX6_countsAs_121 : decode cX6_countsAs 121 = .ok (.iload_n 1, 1) := by decide +kernel
theorem dX6_countsAs_122 : decode cX6_countsAs 122 = .ok (.invokestatic 157, 3) := by decide +kernel
theorem dX6_countsAs_125 : decode cX6_countsAs 125 = .ok (.iload_n 2, 1) := by decide +kernel
theorem dX6_countsAs_126 : decode cX6_countsAs 126 = .ok (.invokevirtual 220, 3) := by decide +kernel
theorem dX6_countsAs_129 : decode cX6_countsAs 129 = .ok (.ireturn, 1) := by decide +kernel
set_option maxRecDepth 20000 in
theorem ggX6_swearsAs_X6_begins : GoodIn wsX6_swearsAs wsX6_begins := goodIn_r _ [6, 7, 8, 36, 37, 38, 39, 40, 41, 42, 43, 44, 45, 46, 47, 48, 49, 50, 51, 52, 53, 54, 55] (by decide +kernel) (by decide +kernel)
set_option maxRecDepth 20000 in
theorem gX6_swearsAs_X6_begins : GoodIn wsX6_swearsAs (wsV RX6 211 RX6 yX6_begins wsX6_begins) := goodIn_app (goodIn_of _ (by decide +kernel)) ggX6_swearsAs_X6_begins
set_option maxRecDepth 20000 in
theorem ggX6_swearsAs_X6_kindNow : GoodIn wsX6_swearsAs wsX6_kindNow := goodIn_r _ [12, 1, 13, 14, 15, 5, 16, 17, 36, 37, 38, 39, 40, 41, 42, 43, 44, 45, 46, 47, 48, 49, 50, 51, 52, 53, 54, 55] (by decide +kernel) (by decide +kernel)
set_option maxRecDepth 20000 in
theorem gX6_swearsAs_X6_kindNow : GoodIn wsX6_swearsAs (wsV RX6 217 RX6 yX6_kindNow wsX6_kindNow) := goodIn_app (goodIn_of _ (by decide +kernel)) ggX6_swearsAs_X6_kindNow
set_option maxRecDepth 20000 in
theorem ggX6_swearsAs_X6_countsAs : GoodIn wsX6_swearsAs wsX6_countsAs := goodIn_r _ [21, 2, 3, 4, 5, 6, 7, 8, 9, 10, 11, 12, 1, 13, 14, 15, 16, 17, 22, 23, 24, 25, 26, 27, 28, 18, 19, 20, 29, 30, 31, 32, 36, 37, 38, 39, 40, 41, 42, 43, 44, 45, 46, 47, 48, 49, 50, 51, 52, 53, 54, 55] (by decide +kernel) (by decide +kernel)
set_option maxRecDepth 20000 in
theorem gX6_swearsAs_X6_countsAs : GoodIn wsX6_swearsAs (wsV RX6 220 RX6 yX6_countsAs wsX6_countsAs) := goodIn_app (goodIn_of _ (by decide +kernel)) ggX6_swearsAs_X6_countsAs
set_option maxRecDepth 20000 in
theorem ggX6_swearsAs_X6_mNow : GoodIn wsX6_swearsAs wsX6_mNow := goodIn_r _ [32, 1, 13, 14, 15, 5, 16, 17, 36, 37, 38, 39, 40, 41, 42, 43, 44, 45, 46, 47, 48, 49, 50, 51, 52, 53, 54, 55] (by decide +kernel) (by decide +kernel)
set_option maxRecDepth 20000 in
theorem gX6_swearsAs_X6_mNow : GoodIn wsX6_swearsAs (wsV RX6 223 RX6 yX6_mNow wsX6_mNow) := goodIn_app (goodIn_of _ (by decide +kernel)) ggX6_swearsAs_X6_mNow
set_option maxRecDepth 20000 in
theorem ggX6_swearsAs_X6_above : GoodIn wsX6_swearsAs wsX6_above := goodIn_r _ [28] (by decide +kernel) (by decide +kernel)
set_option maxRecDepth 20000 in
theorem gX6_swearsAs_X6_above : GoodIn wsX6_swearsAs (va_wsS RX6 157 yX6_above wsX6_above) := goodIn_app (goodIn_of _ (by decide +kernel)) ggX6_swearsAs_X6_above
set_option maxRecDepth 20000 in
theorem ggX6_swearsAs_X6_swearsAs : GoodIn wsX6_swearsAs wsX6_swearsAs := goodIn_r _ [0, 1, 2, 3, 4, 5, 6, 7, 8, 9, 10, 11, 12, 13, 14, 15, 16, 17, 18, 19, 20, 21, 22, 23, 24, 25, 26, 27, 28, 29, 30, 31, 32, 33, 34, 35, 36, 37, 38, 39, 40, 41, 42, 43, 44, 45, 46, 47, 48, 49, 50, 51, 52, 53, 54, 55] (by decide +kernel) (by decide +kernel)
set_option maxRecDepth 20000 in
theorem gX6_swearsAs_X6_swearsAs : GoodIn wsX6_swearsAs (wsV RX6 226 RX6 yX6_swearsAs wsX6_swearsAs) := goodIn_app (goodIn_of _ (by decide +kernel)) ggX6_swearsAs_X6_swearsAs
theorem dX6_swearsAs_0 : decode cX6_swearsAs 0 = .ok (.iload_n 1, 1) := by decide +kernel
theorem dX6_swearsAs_1 : decode cX6_swearsAs 1 = .ok (.tableswitch 95 0 4 #[35, 95, 95, 56, 74], 35) := by decide +kernel
theorem dX6_swearsAs_36 : decode cX6_swearsAs 36 = .ok (.aload_n 0, 1) := by decide +kernel
theorem dX6_swearsAs_37 : decode cX6_swearsAs 37 = .ok (.bipush 12, 2) := by decide +kernel
theorem dX6_swearsAs_39 : decode cX6_swearsAs 39 = .ok (.invokevirtual 211, 3) := by decide +kernel
theorem dX6_swearsAs_42 : decode cX6_swearsAs 42 = .ok (.aload_n 0, 1) := by decide +kernel
theorem dX6_swearsAs_43 : decode cX6_swearsAs 43 = .ok (.aload_n 0, 1) := by decide +kernel
theorem dX6_swearsAs_44 : decode cX6_swearsAs 44 = .ok (.invokevirtual 217, 3) := by decide +kernel
theorem dX6_swearsAs_47 : decode cX6_swearsAs 47 = .ok (.iload_n 2, 1) := by decide +kernel
theorem dX6_swearsAs_48 : decode cX6_swearsAs 48 = .ok (.invokevirtual 220, 3) := by decide +kernel
theorem dX6_swearsAs_51 : decode cX6_swearsAs 51 = .ok (.aload_n 0, 1) := by decide +kernel
theorem dX6_swearsAs_52 : decode cX6_swearsAs 52 = .ok (.invokevirtual 223, 3) := by decide +kernel
theorem dX6_swearsAs_55 : decode cX6_swearsAs 55 = .ok (.isub, 1) := by decide +kernel
theorem dX6_swearsAs_56 : decode cX6_swearsAs 56 = .ok (.ireturn, 1) := by decide +kernel
theorem dX6_swearsAs_57 : decode cX6_swearsAs 57 = .ok (.aload_n 0, 1) := by decide +kernel
theorem dX6_swearsAs_58 : decode cX6_swearsAs 58 = .ok (.bipush 40, 2) := by decide +kernel
theorem dX6_swearsAs_60 : decode cX6_swearsAs 60 = .ok (.invokevirtual 211, 3) := by decide +kernel
theorem dX6_swearsAs_63 : decode cX6_swearsAs 63 = .ok (.aload_n 0, 1) := by decide +kernel
theorem dX6_swearsAs_64 : decode cX6_swearsAs 64 = .ok (.iconst 3, 1) := by decide +kernel
theorem dX6_swearsAs_65 : decode cX6_swearsAs 65 = .ok (.invokestatic 157, 3) := by decide +kernel
theorem dX6_swearsAs_68 : decode cX6_swearsAs 68 = .ok (.iload_n 2, 1) := by decide +kernel
theorem dX6_swearsAs_69 : decode cX6_swearsAs 69 = .ok (.iconst 2, 1) := by decide +kernel
theorem dX6_swearsAs_70 : decode cX6_swearsAs 70 = .ok (.idiv, 1) := by decide +kernel
theorem dX6_swearsAs_71 : decode cX6_swearsAs 71 = .ok (.invokevirtual 226, 3) := by decide +kernel
theorem dX6_swearsAs_74 : decode cX6_swearsAs 74 = .ok (.ireturn, 1) := by decide +kernel
theorem dX6_swearsAs_75 : decode cX6_swearsAs 75 = .ok (.aload_n 0, 1) := by decide +kernel
theorem dX6_swearsAs_76 : decode cX6_swearsAs 76 = .ok (.bipush 51, 2) := by decide +kernel
theorem dX6_swearsAs_78 : decode cX6_swearsAs 78 = .ok (.invokevirtual 211, 3) := by decide +kernel
theorem dX6_swearsAs_81 : decode cX6_swearsAs 81 = .ok (.aload_n 0, 1) := by decide +kernel
theorem dX6_swearsAs_82 : decode cX6_swearsAs 82 = .ok (.iconst 4, 1) := by decide +kernel
theorem dX6_swearsAs_83 : decode cX6_swearsAs 83 = .ok (.invokestatic 157, 3) := by decide +kernel
theorem dX6_swearsAs_86 : decode cX6_swearsAs 86 = .ok (.iload_n 2, 1) := by decide +kernel
theorem dX6_swearsAs_87 : decode cX6_swearsAs 87 = .ok (.invokevirtual 226, 3) := by decide +kernel
theorem dX6_swearsAs_90 : decode cX6_swearsAs 90 = .ok (.aload_n 0, 1) := by decide +kernel
theorem dX6_swearsAs_91 : decode cX6_swearsAs 91 = .ok (.getfield 208, 3) := by decide +kernel
theorem dX6_swearsAs_94 : decode cX6_swearsAs 94 = .ok (.ixor, 1) := by decide +kernel
theorem dX6_swearsAs_95 : decode cX6_swearsAs 95 = .ok (.ireturn, 1) := by decide +kernel
theorem dX6_swearsAs_96 : decode cX6_swearsAs 96 = .ok (.aload_n 0, 1) := by decide +kernel
theorem dX6_swearsAs_97 : decode cX6_swearsAs 97 = .ok (.iload_n 1, 1) := by decide +kernel
theorem dX6_swearsAs_98 : decode cX6_swearsAs 98 = .ok (.invokestatic 157, 3) := by decide +kernel
theorem dX6_swearsAs_101 : decode cX6_swearsAs 101 = .ok (.iload_n 2, 1) := by decide +kernel
theorem dX6_swearsAs_102 : decode cX6_swearsAs 102 = .ok (.invokevirtual 226, 3) := by decide +kernel
theorem dX6_swearsAs_105 : decode cX6_swearsAs 105 = .ok (.ireturn, 1) := by decide +kernel
set_option maxRecDepth 20000 in
theorem ggX6_partsAs_X6_begins : GoodIn wsX6_partsAs wsX6_begins := goodIn_r _ [7, 8, 9, 37, 38, 39, 40, 41, 42, 43, 44, 45, 46, 47, 48, 49, 50, 51, 52, 53, 54, 55, 56] (by decide +kernel) (by decide +kernel)
set_option maxRecDepth 20000 in
theorem gX6_partsAs_X6_begins : GoodIn wsX6_partsAs (wsV RX6 211 RX6 yX6_begins wsX6_begins) := goodIn_app (goodIn_of _ (by decide +kernel)) ggX6_partsAs_X6_begins
set_option maxRecDepth 20000 in
theorem ggX6_partsAs_X6_mNow : GoodIn wsX6_partsAs wsX6_mNow := goodIn_r _ [13, 1, 14, 15, 16, 6, 17, 18, 37, 38, 39, 40, 41, 42, 43, 44, 45, 46, 47, 48, 49, 50, 51, 52, 53, 54, 55, 56] (by decide +kernel) (by decide +kernel)
set_option maxRecDepth 20000 in
theorem gX6_partsAs_X6_mNow : GoodIn wsX6_partsAs (wsV RX6 223 RX6 yX6_mNow wsX6_mNow) := goodIn_app (goodIn_of _ (by decide +kernel)) ggX6_partsAs_X6_mNow
set_option maxRecDepth 20000 in
theorem ggX6_partsAs_X6_above : GoodIn wsX6_partsAs wsX6_above := goodIn_r _ [21] (by decide +kernel) (by decide +kernel)
set_option maxRecDepth 20000 in
theorem gX6_partsAs_X6_above : GoodIn wsX6_partsAs (va_wsS RX6 157 yX6_above wsX6_above) := goodIn_app (goodIn_of _ (by decide +kernel)) ggX6_partsAs_X6_above
set_option maxRecDepth 20000 in
theorem ggX6_partsAs_X6_partsAs : GoodIn wsX6_partsAs wsX6_partsAs := goodIn_r _ [0, 1, 2, 3, 4, 5, 6, 7, 8, 9, 10, 11, 12, 13, 14, 15, 16, 17, 18, 19, 20, 21, 22, 23, 24, 25, 26, 27, 28, 29, 30, 31, 32, 33, 34, 35, 36, 37, 38, 39, 40, 41, 42, 43, 44, 45, 46, 47, 48, 49, 50, 51, 52, 53, 54, 55, 56] (by decide +kernel) (by decide +kernel)
set_option maxRecDepth 20000 in
theorem gX6_partsAs_X6_partsAs : GoodIn wsX6_partsAs (wsV RX6 233 RX6 yX6_partsAs wsX6_partsAs) := goodIn_app (goodIn_of _ (by decide +kernel)) ggX6_partsAs_X6_partsAs
set_option maxRecDepth 20000 in
theorem ggX6_partsAs_X6_kindNow : GoodIn wsX6_partsAs wsX6_kindNow := goodIn_r _ [28, 1, 14, 15, 16, 6, 17, 18, 37, 38, 39, 40, 41, 42, 43, 44, 45, 46, 47, 48, 49, 50, 51, 52, 53, 54, 55, 56] (by decide +kernel) (by decide +kernel)
set_option maxRecDepth 20000 in
theorem gX6_partsAs_X6_kindNow : GoodIn wsX6_partsAs (wsV RX6 217 RX6 yX6_kindNow wsX6_kindNow) := goodIn_app (goodIn_of _ (by decide +kernel)) ggX6_partsAs_X6_kindNow
set_option maxRecDepth 20000 in
theorem ggX6_partsAs_X6_countsAs : GoodIn wsX6_partsAs wsX6_countsAs := goodIn_r _ [32, 3, 4, 5, 6, 7, 8, 9, 25, 26, 27, 28, 1, 14, 15, 16, 17, 18, 33, 34, 35, 36, 19, 20, 21, 29, 30, 31, 10, 11, 12, 13, 37, 38, 39, 40, 41, 42, 43, 44, 45, 46, 47, 48, 49, 50, 51, 52, 53, 54, 55, 56] (by decide +kernel) (by decide +kernel)
set_option maxRecDepth 20000 in
theorem gX6_partsAs_X6_countsAs : GoodIn wsX6_partsAs (wsV RX6 220 RX6 yX6_countsAs wsX6_countsAs) := goodIn_app (goodIn_of _ (by decide +kernel)) ggX6_partsAs_X6_countsAs
theorem dX6_partsAs_0 : decode cX6_partsAs 0 = .ok (.iload_n 1, 1) := by decide +kernel
theorem dX6_partsAs_1 : decode cX6_partsAs 1 = .ok (.lookupswitch 119 #[(0, 27), (1, 78)], 27) := by decide +kernel
theorem dX6_partsAs_28 : decode cX6_partsAs 28 = .ok (.aload_n 0, 1) := by decide +kernel
theorem dX6_partsAs_29 : decode cX6_partsAs 29 = .ok (.bipush 13, 2) := by decide +kernel
theorem dX6_partsAs_31 : decode cX6_partsAs 31 = .ok (.invokevirtual 211, 3) := by decide +kernel
theorem dX6_partsAs_34 : decode cX6_partsAs 34 = .ok (.aload_n 0, 1) := by decide +kernel
theorem dX6_partsAs_35 : decode cX6_partsAs 35 = .ok (.invokevirtual 223, 3) := by decide +kernel
theorem dX6_partsAs_38 : decode cX6_partsAs 38 = .ok (.aload_n 0, 1) := by decide +kernel
theorem dX6_partsAs_39 : decode cX6_partsAs 39 = .ok (.getfield 208, 3) := by decide +kernel
theorem dX6_partsAs_42 : decode cX6_partsAs 42 = .ok (.isub, 1) := by decide +kernel
theorem dX6_partsAs_43 : decode cX6_partsAs 43 = .ok (.istore_n 3, 1) := by decide +kernel
theorem dX6_partsAs_44 : decode cX6_partsAs 44 = .ok (.aload_n 0, 1) := by decide +kernel
theorem dX6_partsAs_45 : decode cX6_partsAs 45 = .ok (.iload_n 3, 1) := by decide +kernel
theorem dX6_partsAs_46 : decode cX6_partsAs 46 = .ok (.ifCond .ne 7, 3) := by decide +kernel
theorem dX6_partsAs_49 : decode cX6_partsAs 49 = .ok (.iconst 1, 1) := by decide +kernel
theorem dX6_partsAs_50 : decode cX6_partsAs 50 = .ok (.goto 4, 3) := by decide +kernel
theorem dX6_partsAs_53 : decode cX6_partsAs 53 = .ok (.iconst 0, 1) := by decide +kernel
theorem dX6_partsAs_54 : decode cX6_partsAs 54 = .ok (.putfield 229, 3) := by decide +kernel
theorem dX6_partsAs_57 : decode cX6_partsAs 57 = .ok (.iload_n 3, 1) := by decide +kernel
theorem dX6_partsAs_58 : decode cX6_partsAs 58 = .ok (.ifCond .ne 7, 3) := by decide +kernel
theorem dX6_partsAs_61 : decode cX6_partsAs 61 = .ok (.iconst 0, 1) := by decide +kernel
theorem dX6_partsAs_62 : decode cX6_partsAs 62 = .ok (.goto 16, 3) := by decide +kernel
theorem dX6_partsAs_65 : decode cX6_partsAs 65 = .ok (.iload_n 3, 1) := by decide +kernel
theorem dX6_partsAs_66 : decode cX6_partsAs 66 = .ok (.iconst (-1), 1) := by decide +kernel
theorem dX6_partsAs_67 : decode cX6_partsAs 67 = .ok (.if_icmp .ne 8, 3) := by decide +kernel
theorem dX6_partsAs_70 : decode cX6_partsAs 70 = .ok (.iload_n 2, 1) := by decide +kernel
theorem dX6_partsAs_71 : decode cX6_partsAs 71 = .ok (.ineg, 1) := by decide +kernel
theorem dX6_partsAs_72 : decode cX6_partsAs 72 = .ok (.goto 6, 3) := by decide +kernel
theorem dX6_partsAs_75 : decode cX6_partsAs 75 = .ok (.iload_n 2, 1) := by decide +kernel
theorem dX6_partsAs_76 : decode cX6_partsAs 76 = .ok (.iload_n 3, 1) := by decide +kernel
theorem dX6_partsAs_77 : decode cX6_partsAs 77 = .ok (.idiv, 1) := by decide +kernel
theorem dX6_partsAs_78 : decode cX6_partsAs 78 = .ok (.ireturn, 1) := by decide +kernel
theorem dX6_partsAs_79 : decode cX6_partsAs 79 = .ok (.aload_n 0, 1) := by decide +kernel
theorem dX6_partsAs_80 : decode cX6_partsAs 80 = .ok (.bipush 21, 2) := by decide +kernel
theorem dX6_partsAs_82 : decode cX6_partsAs 82 = .ok (.invokevirtual 211, 3) := by decide +kernel
theorem dX6_partsAs_85 : decode cX6_partsAs 85 = .ok (.aload_n 0, 1) := by decide +kernel
theorem dX6_partsAs_86 : decode cX6_partsAs 86 = .ok (.iconst 1, 1) := by decide +kernel
theorem dX6_partsAs_87 : decode cX6_partsAs 87 = .ok (.invokestatic 157, 3) := by decide +kernel
theorem dX6_partsAs_90 : decode cX6_partsAs 90 = .ok (.iload_n 2, 1) := by decide +kernel
theorem dX6_partsAs_91 : decode cX6_partsAs 91 = .ok (.invokevirtual 233, 3) := by decide +kernel
theorem dX6_partsAs_94 : decode cX6_partsAs 94 = .ok (.istore 4, 2) := by decide +kernel
theorem dX6_partsAs_96 : decode cX6_partsAs 96 = .ok (.aload_n 0, 1) := by decide +kernel
theorem dX6_partsAs_97 : decode cX6_partsAs 97 = .ok (.getfield 229, 3) := by decide +kernel
theorem dX6_partsAs_100 : decode cX6_partsAs 100 = .ok (.ifCond .eq 7, 3) := by decide +kernel
theorem dX6_partsAs_103 : decode cX6_partsAs 103 = .ok (.iconst 0, 1) := by decide +kernel
theorem dX6_partsAs_104 : decode cX6_partsAs 104 = .ok (.goto 15, 3) := by decide +kernel
theorem dX6_partsAs_107 : decode cX6_partsAs 107 = .ok (.iload 4, 2) := by decide +kernel
theorem dX6_partsAs_109 : decode cX6_partsAs 109 = .ok (.aload_n 0, 1) := by decide +kernel
theorem dX6_partsAs_110 : decode cX6_partsAs 110 = .ok (.aload_n 0, 1) := by decide +kernel
theorem dX6_partsAs_111 : decode cX6_partsAs 111 = .ok (.invokevirtual 217, 3) := by decide +kernel
theorem dX6_partsAs_114 : decode cX6_partsAs 114 = .ok (.iconst 1, 1) := by decide +kernel
theorem dX6_partsAs_115 : decode cX6_partsAs 115 = .ok (.invokevirtual 220, 3) := by decide +kernel
theorem dX6_partsAs_118 : decode cX6_partsAs 118 = .ok (.iadd, 1) := by decide +kernel
theorem dX6_partsAs_119 : decode cX6_partsAs 119 = .ok (.ireturn, 1) := by decide +kernel
theorem dX6_partsAs_120 : decode cX6_partsAs 120 = .ok (.aload_n 0, 1) := by decide +kernel
theorem dX6_partsAs_121 : decode cX6_partsAs 121 = .ok (.iload_n 1, 1) := by decide +kernel
theorem dX6_partsAs_122 : decode cX6_partsAs 122 = .ok (.invokestatic 157, 3) := by decide +kernel
theorem dX6_partsAs_125 : decode cX6_partsAs 125 = .ok (.iload_n 2, 1) := by decide +kernel
theorem dX6_partsAs_126 : decode cX6_partsAs 126 = .ok (.invokevirtual 233, 3) := by decide +kernel
theorem dX6_partsAs_129 : decode cX6_partsAs 129 = .ok (.ireturn, 1) := by decide +kernel
set_option maxRecDepth 20000 in
theorem ggX6_voice_X6_isClimber : GoodIn wsX6_voice wsX6_isClimber := goodIn_r _ [8, 9, 10, 11, 7, 12, 55, 56, 57, 58, 59, 60, 61, 62, 63, 64, 65, 66, 67, 68, 69, 70, 71, 72, 73, 74] (by decide +kernel) (by decide +kernel)
set_option maxRecDepth 20000 in
theorem gX6_voice_X6_isClimber : GoodIn wsX6_voice (wsV RX6 154 RX6 yX6_isClimber wsX6_isClimber) := goodIn_app (goodIn_of _ (by decide +kernel)) ggX6_voice_X6_isClimber
set_option maxRecDepth 20000 in
theorem ggX6_voice_X6_in : GoodIn wsX6_voice wsX6_in := goodIn_r _ [12] (by decide +kernel) (by decide +kernel)
set_option maxRecDepth 20000 in
theorem gX6_voice_X6_in : GoodIn wsX6_voice (va_wsS RX6 51 yX6_in wsX6_in) := goodIn_app (goodIn_of _ (by decide +kernel)) ggX6_voice_X6_in
set_option maxRecDepth 20000 in
theorem ggX6_voice_X6_error : GoodIn wsX6_voice wsX6_error := goodIn_r _ [16, 17, 18, 55, 56, 57, 58, 59, 60, 61, 62, 63, 64, 65, 66, 67, 68, 69, 70, 71, 72, 73, 74] (by decide +kernel) (by decide +kernel)
set_option maxRecDepth 20000 in
theorem gX6_voice_X6_error : GoodIn wsX6_voice (wsV RX6 55 RX6 yX6_error wsX6_error) := goodIn_app (goodIn_of _ (by decide +kernel)) ggX6_voice_X6_error
set_option maxRecDepth 20000 in
theorem ggX6_voice_X6_kindNow : GoodIn wsX6_voice wsX6_kindNow := goodIn_r _ [22, 2, 23, 24, 25, 7, 26, 9, 55, 56, 57, 58, 59, 60, 61, 62, 63, 64, 65, 66, 67, 68, 69, 70, 71, 72, 73, 74] (by decide +kernel) (by decide +kernel)
set_option maxRecDepth 20000 in
theorem gX6_voice_X6_kindNow : GoodIn wsX6_voice (wsV RX6 217 RX6 yX6_kindNow wsX6_kindNow) := goodIn_app (goodIn_of _ (by decide +kernel)) ggX6_voice_X6_kindNow
set_option maxRecDepth 20000 in
theorem ggX6_voice_X6_pantsAs : GoodIn wsX6_voice wsX6_pantsAs := goodIn_r _ [30, 2, 31, 32, 33, 7, 34, 1, 35, 36, 37, 38, 27, 28, 29, 55, 56, 57, 58, 59, 60, 61, 62, 63, 64, 65, 66, 67, 68, 69, 70, 71, 72, 73, 74] (by decide +kernel) (by decide +kernel)
set_option maxRecDepth 20000 in
theorem gX6_voice_X6_pantsAs : GoodIn wsX6_voice (wsV RX6 214 RX6 yX6_pantsAs wsX6_pantsAs) := goodIn_app (goodIn_of _ (by decide +kernel)) ggX6_voice_X6_pantsAs
set_option maxRecDepth 20000 in
theorem ggX6_voice_X6_countsAs : GoodIn wsX6_voice wsX6_countsAs := goodIn_r _ [42, 31, 32, 33, 7, 34, 1, 35, 19, 20, 21, 22, 2, 23, 24, 25, 26, 9, 27, 28, 29, 30, 36, 37, 38, 39, 40, 41, 43, 44, 45, 46, 55, 56, 57, 58, 59, 60, 61, 62, 63, 64, 65, 66, 67, 68, 69, 70, 71, 72, 73, 74] (by decide +kernel) (by decide +kernel)
set_option maxRecDepth 20000 in
theorem gX6_voice_X6_countsAs : GoodIn wsX6_voice (wsV RX6 220 RX6 yX6_countsAs wsX6_countsAs) := goodIn_app (goodIn_of _ (by decide +kernel)) ggX6_voice_X6_countsAs
set_option maxRecDepth 20000 in
theorem ggX6_voice_X6_swearsAs : GoodIn wsX6_voice wsX6_swearsAs := goodIn_r _ [50, 2, 31, 32, 33, 7, 34, 1, 35, 19, 20, 21, 22, 23, 24, 25, 26, 9, 39, 40, 41, 42, 27, 28, 29, 30, 36, 37, 38, 43, 44, 45, 46, 47, 48, 49, 55, 56, 57, 58, 59, 60, 61, 62, 63, 64, 65, 66, 67, 68, 69, 70, 71, 72, 73, 74] (by decide +kernel) (by decide +kernel)
set_option maxRecDepth 20000 in
theorem gX6_voice_X6_swearsAs : GoodIn wsX6_voice (wsV RX6 226 RX6 yX6_swearsAs wsX6_swearsAs) := goodIn_app (goodIn_of _ (by decide +kernel)) ggX6_voice_X6_swearsAs
set_option maxRecDepth 20000 in
theorem ggX6_voice_X6_partsAs : GoodIn wsX6_voice wsX6_partsAs := goodIn_r _ [54, 2, 3, 31, 32, 33, 7, 34, 1, 35, 43, 44, 45, 46, 23, 24, 25, 26, 9, 36, 37, 38, 51, 52, 53, 19, 20, 21, 22, 39, 40, 41, 42, 27, 28, 29, 30, 55, 56, 57, 58, 59, 60, 61, 62, 63, 64, 65, 66, 67, 68, 69, 70, 71, 72, 73, 74] (by decide +kernel) (by decide +kernel)
set_option maxRecDepth 20000 in
theorem gX6_voice_X6_partsAs : GoodIn wsX6_voice (wsV RX6 233 RX6 yX6_partsAs wsX6_partsAs) := goodIn_app (goodIn_of _ (by decide +kernel)) ggX6_voice_X6_partsAs
theorem dX6_voice_0 : decode cX6_voice 0 = .ok (.aload_n 0, 1) := by decide +kernel
theorem dX6_voice_1 : decode cX6_voice 1 = .ok (.iload_n 1, 1) := by decide +kernel
theorem dX6_voice_2 : decode cX6_voice 2 = .ok (.invokevirtual 154, 3) := by decide +kernel
theorem dX6_voice_5 : decode cX6_voice 5 = .ok (.ifCond .eq 12, 3) := by decide +kernel
theorem dX6_voice_8 : decode cX6_voice 8 = .ok (.iload_n 2, 1) := by decide +kernel
theorem dX6_voice_9 : decode cX6_voice 9 = .ok (.iconst 0, 1) := by decide +kernel
theorem dX6_voice_10 : decode cX6_voice 10 = .ok (.iconst 3, 1) := by decide +kernel
theorem dX6_voice_11 : decode cX6_voice 11 = .ok (.invokestatic 51, 3) := by decide +kernel
theorem dX6_voice_14 : decode cX6_voice 14 = .ok (.ifCond .ne 9, 3) := by decide +kernel
theorem dX6_voice_17 : decode cX6_voice 17 = .ok (.aload_n 0, 1) := by decide +kernel
theorem dX6_voice_18 : decode cX6_voice 18 = .ok (.iconst 1, 1) := by decide +kernel
theorem dX6_voice_19 : decode cX6_voice 19 = .ok (.invokevirtual 55, 3) := by decide +kernel
theorem dX6_voice_22 : decode cX6_voice 22 = .ok (.ireturn, 1) := by decide +kernel
theorem dX6_voice_23 : decode cX6_voice 23 = .ok (.aload_n 0, 1) := by decide +kernel
theorem dX6_voice_24 : decode cX6_voice 24 = .ok (.iconst 0, 1) := by decide +kernel
theorem dX6_voice_25 : decode cX6_voice 25 = .ok (.putfield 205, 3) := by decide +kernel
theorem dX6_voice_28 : decode cX6_voice 28 = .ok (.aload_n 0, 1) := by decide +kernel
theorem dX6_voice_29 : decode cX6_voice 29 = .ok (.iload_n 1, 1) := by decide +kernel
theorem dX6_voice_30 : decode cX6_voice 30 = .ok (.putfield 208, 3) := by decide +kernel
theorem dX6_voice_33 : decode cX6_voice 33 = .ok (.aload_n 0, 1) := by decide +kernel
theorem dX6_voice_34 : decode cX6_voice 34 = .ok (.iconst 0, 1) := by decide +kernel
theorem dX6_voice_35 : decode cX6_voice 35 = .ok (.putfield 229, 3) := by decide +kernel
theorem dX6_voice_38 : decode cX6_voice 38 = .ok (.aload_n 0, 1) := by decide +kernel
theorem dX6_voice_39 : decode cX6_voice 39 = .ok (.invokevirtual 217, 3) := by decide +kernel
theorem dX6_voice_42 : decode cX6_voice 42 = .ok (.istore 4, 2) := by decide +kernel
theorem dX6_voice_44 : decode cX6_voice 44 = .ok (.iload_n 2, 1) := by decide +kernel
theorem dX6_voice_45 : decode cX6_voice 45 = .ok (.ifCond .ne 13, 3) := by decide +kernel
theorem dX6_voice_48 : decode cX6_voice 48 = .ok (.aload_n 0, 1) := by decide +kernel
theorem dX6_voice_49 : decode cX6_voice 49 = .ok (.iload 4, 2) := by decide +kernel
theorem dX6_voice_51 : decode cX6_voice 51 = .ok (.iload_n 3, 1) := by decide +kernel
theorem dX6_voice_52 : decode cX6_voice 52 = .ok (.invokevirtual 214, 3) := by decide +kernel
theorem dX6_voice_55 : decode cX6_voice 55 = .ok (.goto 40, 3) := by decide +kernel
theorem dX6_voice_58 : decode cX6_voice 58 = .ok (.iload_n 2, 1) := by decide +kernel
theorem dX6_voice_59 : decode cX6_voice 59 = .ok (.iconst 1, 1) := by decide +kernel
theorem dX6_voice_60 : decode cX6_voice 60 = .ok (.if_icmp .ne 13, 3) := by decide +kernel
theorem dX6_voice_63 : decode cX6_voice 63 = .ok (.aload_n 0, 1) := by decide +kernel
theorem dX6_voice_64 : decode cX6_voice 64 = .ok (.iload 4, 2) := by decide +kernel
theorem dX6_voice_66 : decode cX6_voice 66 = .ok (.iload_n 3, 1) := by decide +kernel
theorem dX6_voice_67 : decode cX6_voice 67 = .ok (.invokevirtual 220, 3) := by decide +kernel
theorem dX6_voice_70 : decode cX6_voice 70 = .ok (.goto 25, 3) := by decide +kernel
theorem dX6_voice_73 : decode cX6_voice 73 = .ok (.iload_n 2, 1) := by decide +kernel
theorem dX6_voice_74 : decode cX6_voice 74 = .ok (.iconst 2, 1) := by decide +kernel
theorem dX6_voice_75 : decode cX6_voice 75 = .ok (.if_icmp .ne 13, 3) := by decide +kernel
theorem dX6_voice_78 : decode cX6_voice 78 = .ok (.aload_n 0, 1) := by decide +kernel
theorem dX6_voice_79 : decode cX6_voice 79 = .ok (.iload 4, 2) := by decide +kernel
theorem dX6_voice_81 : decode cX6_voice 81 = .ok (.iload_n 3, 1) := by decide +kernel
theorem dX6_voice_82 : decode cX6_voice 82 = .ok (.invokevirtual 226, 3) := by decide +kernel
theorem dX6_voice_85 : decode cX6_voice 85 = .ok (.goto 10, 3) := by decide +kernel
theorem dX6_voice_88 : decode cX6_voice 88 = .ok (.aload_n 0, 1) := by decide +kernel
theorem dX6_voice_89 : decode cX6_voice 89 = .ok (.iload 4, 2) := by decide +kernel
theorem dX6_voice_91 : decode cX6_voice 91 = .ok (.iload_n 3, 1) := by decide +kernel
theorem dX6_voice_92 : decode cX6_voice 92 = .ok (.invokevirtual 233, 3) := by decide +kernel
theorem dX6_voice_95 : decode cX6_voice 95 = .ok (.istore 5, 2) := by decide +kernel
theorem dX6_voice_97 : decode cX6_voice 97 = .ok (.aload_n 0, 1) := by decide +kernel
theorem dX6_voice_98 : decode cX6_voice 98 = .ok (.getfield 229, 3) := by decide +kernel
theorem dX6_voice_101 : decode cX6_voice 101 = .ok (.ifCond .eq 12, 3) := by decide +kernel
theorem dX6_voice_104 : decode cX6_voice 104 = .ok (.aload_n 0, 1) := by decide +kernel
theorem dX6_voice_105 : decode cX6_voice 105 = .ok (.bipush 6, 2) := by decide +kernel
theorem dX6_voice_107 : decode cX6_voice 107 = .ok (.invokevirtual 55, 3) := by decide +kernel
theorem dX6_voice_110 : decode cX6_voice 110 = .ok (.goto 5, 3) := by decide +kernel
theorem dX6_voice_113 : decode cX6_voice 113 = .ok (.iload 5, 2) := by decide +kernel
theorem dX6_voice_115 : decode cX6_voice 115 = .ok (.ireturn, 1) := by decide +kernel
set_option maxRecDepth 20000 in
theorem ggX6_body_X6_in : GoodIn wsX6_body wsX6_in := goodIn_r _ [6] (by decide +kernel) (by decide +kernel)
set_option maxRecDepth 20000 in
theorem gX6_body_X6_in : GoodIn wsX6_body (va_wsS RX6 51 yX6_in wsX6_in) := goodIn_app (goodIn_of _ (by decide +kernel)) ggX6_body_X6_in
set_option maxRecDepth 20000 in
theorem ggX6_body_X6_error : GoodIn wsX6_body wsX6_error := goodIn_r _ [10, 11, 12, 13, 14, 15, 16, 17, 18, 19, 20, 21, 22, 23, 24, 25, 26, 27, 28, 29, 30, 31, 32] (by decide +kernel) (by decide +kernel)
set_option maxRecDepth 20000 in
theorem gX6_body_X6_error : GoodIn wsX6_body (wsV RX6 55 RX6 yX6_error wsX6_error) := goodIn_app (goodIn_of _ (by decide +kernel)) ggX6_body_X6_error
theorem dX6_body_0 : decode cX6_body 0 = .ok (.iload_n 1, 1) := by decide +kernel
theorem dX6_body_1 : decode cX6_body 1 = .ok (.iconst 0, 1) := by decide +kernel
theorem dX6_body_2 : decode cX6_body 2 = .ok (.aload_n 0, 1) := by decide +kernel
theorem dX6_body_3 : decode cX6_body 3 = .ok (.getfield 205, 3) := by decide +kernel
theorem dX6_body_6 : decode cX6_body 6 = .ok (.iconst 1, 1) := by decide +kernel
theorem dX6_body_7 : decode cX6_body 7 = .ok (.isub, 1) := by decide +kernel
theorem dX6_body_8 : decode cX6_body 8 = .ok (.invokestatic 51, 3) := by decide +kernel
theorem dX6_body_11 : decode cX6_body 11 = .ok (.ifCond .eq 12, 3) := by decide +kernel
theorem dX6_body_14 : decode cX6_body 14 = .ok (.aload_n 0, 1) := by decide +kernel
theorem dX6_body_15 : decode cX6_body 15 = .ok (.getfield 31, 3) := by decide +kernel
theorem dX6_body_18 : decode cX6_body 18 = .ok (.iload_n 1, 1) := by decide +kernel
theorem dX6_body_19 : decode cX6_body 19 = .ok (.iaload, 1) := by decide +kernel
theorem dX6_body_20 : decode cX6_body 20 = .ok (.goto 8, 3) := by decide +kernel
theorem dX6_body_23 : decode cX6_body 23 = .ok (.aload_n 0, 1) := by decide +kernel
theorem dX6_body_24 : decode cX6_body 24 = .ok (.iconst 2, 1) := by decide +kernel
theorem dX6_body_25 : decode cX6_body 25 = .ok (.invokevirtual 55, 3) := by decide +kernel
theorem dX6_body_28 : decode cX6_body 28 = .ok (.ireturn, 1) := by decide +kernel
set_option maxRecDepth 20000 in
theorem ggX6_isSheet_X6_in : GoodIn wsX6_isSheet wsX6_in := goodIn_r _ [4] (by decide +kernel) (by decide +kernel)
set_option maxRecDepth 20000 in
theorem gX6_isSheet_X6_in : GoodIn wsX6_isSheet (va_wsS RX6 51 yX6_in wsX6_in) := goodIn_app (goodIn_of _ (by decide +kernel)) ggX6_isSheet_X6_in
theorem dX6_isSheet_0 : decode cX6_isSheet 0 = .ok (.iload_n 0, 1) := by decide +kernel
theorem dX6_isSheet_1 : decode cX6_isSheet 1 = .ok (.iconst 0, 1) := by decide +kernel
theorem dX6_isSheet_2 : decode cX6_isSheet 2 = .ok (.iconst 3, 1) := by decide +kernel
theorem dX6_isSheet_3 : decode cX6_isSheet 3 = .ok (.invokestatic 51, 3) := by decide +kernel
theorem dX6_isSheet_6 : decode cX6_isSheet 6 = .ok (.ireturn, 1) := by decide +kernel
set_option maxRecDepth 20000 in
theorem ggX6_sheet_X6_isSheet : GoodIn wsX6_sheet wsX6_isSheet := goodIn_r _ [7, 8, 9, 6, 10] (by decide +kernel) (by decide +kernel)
set_option maxRecDepth 20000 in
theorem gX6_sheet_X6_isSheet : GoodIn wsX6_sheet (va_wsS RX6 236 yX6_isSheet wsX6_isSheet) := goodIn_app (goodIn_of _ (by decide +kernel)) ggX6_sheet_X6_isSheet
set_option maxRecDepth 20000 in
theorem ggX6_sheet_X6_error : GoodIn wsX6_sheet wsX6_error := goodIn_r _ [14, 15, 16, 17, 18, 19, 20, 21, 22, 23, 24, 25, 26, 27, 28, 29, 30, 31, 32, 33, 34, 35, 36] (by decide +kernel) (by decide +kernel)
set_option maxRecDepth 20000 in
theorem gX6_sheet_X6_error : GoodIn wsX6_sheet (wsV RX6 55 RX6 yX6_error wsX6_error) := goodIn_app (goodIn_of _ (by decide +kernel)) ggX6_sheet_X6_error
theorem dX6_sheet_0 : decode cX6_sheet 0 = .ok (.iload_n 1, 1) := by decide +kernel
theorem dX6_sheet_1 : decode cX6_sheet 1 = .ok (.invokestatic 236, 3) := by decide +kernel
theorem dX6_sheet_4 : decode cX6_sheet 4 = .ok (.ifCond .eq 25, 3) := by decide +kernel
theorem dX6_sheet_7 : decode cX6_sheet 7 = .ok (.iload_n 2, 1) := by decide +kernel
theorem dX6_sheet_8 : decode cX6_sheet 8 = .ok (.ifCond .eq 27, 3) := by decide +kernel
theorem dX6_sheet_11 : decode cX6_sheet 11 = .ok (.iload_n 2, 1) := by decide +kernel
theorem dX6_sheet_12 : decode cX6_sheet 12 = .ok (.bipush 8, 2) := by decide +kernel
theorem dX6_sheet_14 : decode cX6_sheet 14 = .ok (.if_icmp .eq 21, 3) := by decide +kernel
theorem dX6_sheet_17 : decode cX6_sheet 17 = .ok (.iload_n 2, 1) := by decide +kernel
theorem dX6_sheet_18 : decode cX6_sheet 18 = .ok (.bipush 16, 2) := by decide +kernel
theorem dX6_sheet_20 : decode cX6_sheet 20 = .ok (.if_icmp .eq 15, 3) := by decide +kernel
theorem dX6_sheet_23 : decode cX6_sheet 23 = .ok (.iload_n 2, 1) := by decide +kernel
theorem dX6_sheet_24 : decode cX6_sheet 24 = .ok (.bipush 32, 2) := by decide +kernel
theorem dX6_sheet_26 : decode cX6_sheet 26 = .ok (.if_icmp .eq 9, 3) := by decide +kernel
theorem dX6_sheet_29 : decode cX6_sheet 29 = .ok (.aload_n 0, 1) := by decide +kernel
theorem dX6_sheet_30 : decode cX6_sheet 30 = .ok (.iconst 1, 1) := by decide +kernel
theorem dX6_sheet_31 : decode cX6_sheet 31 = .ok (.invokevirtual 55, 3) := by decide +kernel
theorem dX6_sheet_34 : decode cX6_sheet 34 = .ok (.ireturn, 1) := by decide +kernel
theorem dX6_sheet_35 : decode cX6_sheet 35 = .ok (.iload_n 2, 1) := by decide +kernel
theorem dX6_sheet_36 : decode cX6_sheet 36 = .ok (.ifCond .eq 13, 3) := by decide +kernel
theorem dX6_sheet_39 : decode cX6_sheet 39 = .ok (.iload_n 3, 1) := by decide +kernel
theorem dX6_sheet_40 : decode cX6_sheet 40 = .ok (.ifCond .ge 9, 3) := by decide +kernel
theorem dX6_sheet_43 : decode cX6_sheet 43 = .ok (.aload_n 0, 1) := by decide +kernel
theorem dX6_sheet_44 : decode cX6_sheet 44 = .ok (.iconst 3, 1) := by decide +kernel
theorem dX6_sheet_45 : decode cX6_sheet 45 = .ok (.invokevirtual 55, 3) := by decide +kernel
theorem dX6_sheet_48 : decode cX6_sheet 48 = .ok (.ireturn, 1) := by decide +kernel
theorem dX6_sheet_49 : decode cX6_sheet 49 = .ok (.iload_n 2, 1) := by decide +kernel
theorem dX6_sheet_50 : decode cX6_sheet 50 = .ok (.ifCond .eq 15, 3) := by decide +kernel
theorem dX6_sheet_53 : decode cX6_sheet 53 = .ok (.iload_n 3, 1) := by decide +kernel
theorem dX6_sheet_54 : decode cX6_sheet 54 = .ok (.bipush 24, 2) := by decide +kernel
theorem dX6_sheet_56 : decode cX6_sheet 56 = .ok (.if_icmp .le 9, 3) := by decide +kernel
theorem dX6_sheet_59 : decode cX6_sheet 59 = .ok (.aload_n 0, 1) := by decide +kernel
theorem dX6_sheet_60 : decode cX6_sheet 60 = .ok (.iconst 1, 1) := by decide +kernel
theorem dX6_sheet_61 : decode cX6_sheet 61 = .ok (.invokevirtual 55, 3) := by decide +kernel
theorem dX6_sheet_64 : decode cX6_sheet 64 = .ok (.ireturn, 1) := by decide +kernel
theorem dX6_sheet_65 : decode cX6_sheet 65 = .ok (.aload_n 0, 1) := by decide +kernel
theorem dX6_sheet_66 : decode cX6_sheet 66 = .ok (.getfield 34, 3) := by decide +kernel
theorem dX6_sheet_69 : decode cX6_sheet 69 = .ok (.iload_n 1, 1) := by decide +kernel
theorem dX6_sheet_70 : decode cX6_sheet 70 = .ok (.iload_n 2, 1) := by decide +kernel
theorem dX6_sheet_71 : decode cX6_sheet 71 = .ok (.iastore, 1) := by decide +kernel
theorem dX6_sheet_72 : decode cX6_sheet 72 = .ok (.aload_n 0, 1) := by decide +kernel
theorem dX6_sheet_73 : decode cX6_sheet 73 = .ok (.getfield 37, 3) := by decide +kernel
theorem dX6_sheet_76 : decode cX6_sheet 76 = .ok (.iload_n 1, 1) := by decide +kernel
theorem dX6_sheet_77 : decode cX6_sheet 77 = .ok (.iload_n 2, 1) := by decide +kernel
theorem dX6_sheet_78 : decode cX6_sheet 78 = .ok (.ifCond .ne 7, 3) := by decide +kernel
theorem dX6_sheet_81 : decode cX6_sheet 81 = .ok (.iconst 0, 1) := by decide +kernel
theorem dX6_sheet_82 : decode cX6_sheet 82 = .ok (.goto 4, 3) := by decide +kernel
theorem dX6_sheet_85 : decode cX6_sheet 85 = .ok (.iload_n 3, 1) := by decide +kernel
theorem dX6_sheet_86 : decode cX6_sheet 86 = .ok (.iastore, 1) := by decide +kernel
theorem dX6_sheet_87 : decode cX6_sheet 87 = .ok (.iconst 0, 1) := by decide +kernel
theorem dX6_sheet_88 : decode cX6_sheet 88 = .ok (.istore 4, 2) := by decide +kernel
theorem dX6_sheet_90 : decode cX6_sheet 90 = .ok (.iload 4, 2) := by decide +kernel
theorem dX6_sheet_92 : decode cX6_sheet 92 = .ok (.bipush 24, 2) := by decide +kernel
theorem dX6_sheet_94 : decode cX6_sheet 94 = .ok (.if_icmp .ge 22, 3) := by decide +kernel
theorem dX6_sheet_97 : decode cX6_sheet 97 = .ok (.aload_n 0, 1) := by decide +kernel
theorem dX6_sheet_98 : decode cX6_sheet 98 = .ok (.getfield 40, 3) := by decide +kernel
theorem dX6_sheet_101 : decode cX6_sheet 101 = .ok (.bipush 24, 2) := by decide +kernel
theorem dX6_sheet_103 : decode cX6_sheet 103 = .ok (.iload_n 1, 1) := by decide +kernel
theorem dX6_sheet_104 : decode cX6_sheet 104 = .ok (.imul, 1) := by decide +kernel
theorem dX6_sheet_105 : decode cX6_sheet 105 = .ok (.iload 4, 2) := by decide +kernel
theorem dX6_sheet_107 : decode cX6_sheet 107 = .ok (.iadd, 1) := by decide +kernel
theorem dX6_sheet_108 : decode cX6_sheet 108 = .ok (.iconst 0, 1) := by decide +kernel
theorem dX6_sheet_109 : decode cX6_sheet 109 = .ok (.iastore, 1) := by decide +kernel
theorem dX6_sheet_110 : decode cX6_sheet 110 = .ok (.iinc 4 1, 3) := by decide +kernel
theorem dX6_sheet_113 : decode cX6_sheet 113 = .ok (.goto (-23), 3) := by decide +kernel
theorem dX6_sheet_116 : decode cX6_sheet 116 = .ok (.iconst 1, 1) := by decide +kernel
theorem dX6_sheet_117 : decode cX6_sheet 117 = .ok (.ireturn, 1) := by decide +kernel
set_option maxRecDepth 20000 in
theorem ggX6_put_X6_isSheet : GoodIn wsX6_put wsX6_isSheet := goodIn_r _ [7, 8, 9, 6, 10] (by decide +kernel) (by decide +kernel)
set_option maxRecDepth 20000 in
theorem gX6_put_X6_isSheet : GoodIn wsX6_put (va_wsS RX6 236 yX6_isSheet wsX6_isSheet) := goodIn_app (goodIn_of _ (by decide +kernel)) ggX6_put_X6_isSheet
set_option maxRecDepth 20000 in
theorem ggX6_put_X6_error : GoodIn wsX6_put wsX6_error := goodIn_r _ [14, 15, 16, 17, 18, 19, 20, 21, 22, 23, 24, 25, 26, 27, 28, 29, 30, 31, 32, 33, 34, 35, 36] (by decide +kernel) (by decide +kernel)
set_option maxRecDepth 20000 in
theorem gX6_put_X6_error : GoodIn wsX6_put (wsV RX6 55 RX6 yX6_error wsX6_error) := goodIn_app (goodIn_of _ (by decide +kernel)) ggX6_put_X6_error
set_option maxRecDepth 20000 in
theorem ggX6_put_X6_in : GoodIn wsX6_put wsX6_in := goodIn_r _ [10] (by decide +kernel) (by decide +kernel)
set_option maxRecDepth 20000 in
theorem gX6_put_X6_in : GoodIn wsX6_put (va_wsS RX6 51 yX6_in wsX6_in) := goodIn_app (goodIn_of _ (by decide +kernel)) ggX6_put_X6_in
theorem dX6_put_0 : decode cX6_put 0 = .ok (.iload_n 1, 1) := by decide +kernel
theorem dX6_put_1 : decode cX6_put 1 = .ok (.invokestatic 236, 3) := by decide +kernel
theorem dX6_put_4 : decode cX6_put 4 = .ok (.ifCond .ne 9, 3) := by decide +kernel
theorem dX6_put_7 : decode cX6_put 7 = .ok (.aload_n 0, 1) := by decide +kernel
theorem dX6_put_8 : decode cX6_put 8 = .ok (.iconst 1, 1) := by decide +kernel
theorem dX6_put_9 : decode cX6_put 9 = .ok (.invokevirtual 55, 3) := by decide +kernel
theorem dX6_put_12 : decode cX6_put 12 = .ok (.ireturn, 1) := by decide +kernel
theorem dX6_put_13 : decode cX6_put 13 = .ok (.aload_n 0, 1) := by decide +kernel
theorem dX6_put_14 : decode cX6_put 14 = .ok (.getfield 34, 3) := by decide +kernel
theorem dX6_put_17 : decode cX6_put 17 = .ok (.iload_n 1, 1) := by decide +kernel
theorem dX6_put_18 : decode cX6_put 18 = .ok (.iaload, 1) := by decide +kernel
theorem dX6_put_19 : decode cX6_put 19 = .ok (.ifCond .ne 9, 3) := by decide +kernel
theorem dX6_put_22 : decode cX6_put 22 = .ok (.aload_n 0, 1) := by decide +kernel
theorem dX6_put_23 : decode cX6_put 23 = .ok (.iconst 2, 1) := by decide +kernel
theorem dX6_put_24 : decode cX6_put 24 = .ok (.invokevirtual 55, 3) := by decide +kernel
theorem dX6_put_27 : decode cX6_put 27 = .ok (.ireturn, 1) := by decide +kernel
theorem dX6_put_28 : decode cX6_put 28 = .ok (.iload_n 2, 1) := by decide +kernel
theorem dX6_put_29 : decode cX6_put 29 = .ok (.iconst 0, 1) := by decide +kernel
theorem dX6_put_30 : decode cX6_put 30 = .ok (.aload_n 0, 1) := by decide +kernel
theorem dX6_put_31 : decode cX6_put 31 = .ok (.getfield 37, 3) := by decide +kernel
theorem dX6_put_34 : decode cX6_put 34 = .ok (.iload_n 1, 1) := by decide +kernel
theorem dX6_put_35 : decode cX6_put 35 = .ok (.iaload, 1) := by decide +kernel
theorem dX6_put_36 : decode cX6_put 36 = .ok (.iconst 1, 1) := by decide +kernel
theorem dX6_put_37 : decode cX6_put 37 = .ok (.isub, 1) := by decide +kernel
theorem dX6_put_38 : decode cX6_put 38 = .ok (.invokestatic 51, 3) := by decide +kernel
theorem dX6_put_41 : decode cX6_put 41 = .ok (.ifCond .ne 9, 3) := by decide +kernel
theorem dX6_put_44 : decode cX6_put 44 = .ok (.aload_n 0, 1) := by decide +kernel
theorem dX6_put_45 : decode cX6_put 45 = .ok (.iconst 1, 1) := by decide +kernel
theorem dX6_put_46 : decode cX6_put 46 = .ok (.invokevirtual 55, 3) := by decide +kernel
theorem dX6_put_49 : decode cX6_put 49 = .ok (.ireturn, 1) := by decide +kernel
theorem dX6_put_50 : decode cX6_put 50 = .ok (.bipush 32, 2) := by decide +kernel
theorem dX6_put_52 : decode cX6_put 52 = .ok (.aload_n 0, 1) := by decide +kernel
theorem dX6_put_53 : decode cX6_put 53 = .ok (.getfield 34, 3) := by decide +kernel
theorem dX6_put_56 : decode cX6_put 56 = .ok (.iload_n 1, 1) := by decide +kernel
theorem dX6_put_57 : decode cX6_put 57 = .ok (.iaload, 1) := by decide +kernel
theorem dX6_put_58 : decode cX6_put 58 = .ok (.isub, 1) := by decide +kernel
theorem dX6_put_59 : decode cX6_put 59 = .ok (.istore 4, 2) := by decide +kernel
theorem dX6_put_61 : decode cX6_put 61 = .ok (.aload_n 0, 1) := by decide +kernel
theorem dX6_put_62 : decode cX6_put 62 = .ok (.getfield 40, 3) := by decide +kernel
theorem dX6_put_65 : decode cX6_put 65 = .ok (.bipush 24, 2) := by decide +kernel
theorem dX6_put_67 : decode cX6_put 67 = .ok (.iload_n 1, 1) := by decide +kernel
theorem dX6_put_68 : decode cX6_put 68 = .ok (.imul, 1) := by decide +kernel
theorem dX6_put_69 : decode cX6_put 69 = .ok (.iload_n 2, 1) := by decide +kernel
theorem dX6_put_70 : decode cX6_put 70 = .ok (.iadd, 1) := by decide +kernel
theorem dX6_put_71 : decode cX6_put 71 = .ok (.iload_n 3, 1) := by decide +kernel
theorem dX6_put_72 : decode cX6_put 72 = .ok (.iload 4, 2) := by decide +kernel
theorem dX6_put_74 : decode cX6_put 74 = .ok (.ishl, 1) := by decide +kernel
theorem dX6_put_75 : decode cX6_put 75 = .ok (.iload 4, 2) := by decide +kernel
theorem dX6_put_77 : decode cX6_put 77 = .ok (.ishr, 1) := by decide +kernel
theorem dX6_put_78 : decode cX6_put 78 = .ok (.iastore, 1) := by decide +kernel
theorem dX6_put_79 : decode cX6_put 79 = .ok (.iconst 1, 1) := by decide +kernel
theorem dX6_put_80 : decode cX6_put 80 = .ok (.ireturn, 1) := by decide +kernel
set_option maxRecDepth 20000 in
theorem ggX6_move_X6_isSheet : GoodIn wsX6_move wsX6_isSheet := goodIn_r _ [8, 9, 10, 7, 11] (by decide +kernel) (by decide +kernel)
set_option maxRecDepth 20000 in
theorem gX6_move_X6_isSheet : GoodIn wsX6_move (va_wsS RX6 236 yX6_isSheet wsX6_isSheet) := goodIn_app (goodIn_of _ (by decide +kernel)) ggX6_move_X6_isSheet
set_option maxRecDepth 20000 in
theorem ggX6_move_X6_error : GoodIn wsX6_move wsX6_error := goodIn_r _ [15, 16, 17, 18, 19, 20, 21, 22, 23, 24, 25, 26, 27, 28, 29, 30, 31, 32, 33, 34, 35, 36, 37] (by decide +kernel) (by decide +kernel)
set_option maxRecDepth 20000 in
theorem gX6_move_X6_error : GoodIn wsX6_move (wsV RX6 55 RX6 yX6_error wsX6_error) := goodIn_app (goodIn_of _ (by decide +kernel)) ggX6_move_X6_error
theorem dX6_move_0 : decode cX6_move 0 = .ok (.iload_n 1, 1) := by decide +kernel
theorem dX6_move_1 : decode cX6_move 1 = .ok (.invokestatic 236, 3) := by decide +kernel
theorem dX6_move_4 : decode cX6_move 4 = .ok (.ifCond .eq 10, 3) := by decide +kernel
theorem dX6_move_7 : decode cX6_move 7 = .ok (.iload_n 3, 1) := by decide +kernel
theorem dX6_move_8 : decode cX6_move 8 = .ok (.invokestatic 236, 3) := by decide +kernel
theorem dX6_move_11 : decode cX6_move 11 = .ok (.ifCond .ne 9, 3) := by decide +kernel
theorem dX6_move_14 : decode cX6_move 14 = .ok (.aload_n 0, 1) := by decide +kernel
theorem dX6_move_15 : decode cX6_move 15 = .ok (.iconst 1, 1) := by decide +kernel
theorem dX6_move_16 : decode cX6_move 16 = .ok (.invokevirtual 55, 3) := by decide +kernel
theorem dX6_move_19 : decode cX6_move 19 = .ok (.ireturn, 1) := by decide +kernel
theorem dX6_move_20 : decode cX6_move 20 = .ok (.aload_n 0, 1) := by decide +kernel
theorem dX6_move_21 : decode cX6_move 21 = .ok (.getfield 34, 3) := by decide +kernel
theorem dX6_move_24 : decode cX6_move 24 = .ok (.iload_n 1, 1) := by decide +kernel
theorem dX6_move_25 : decode cX6_move 25 = .ok (.iaload, 1) := by decide +kernel
theorem dX6_move_26 : decode cX6_move 26 = .ok (.ifCond .eq 12, 3) := by decide +kernel
theorem dX6_move_29 : decode cX6_move 29 = .ok (.aload_n 0, 1) := by decide +kernel
theorem dX6_move_30 : decode cX6_move 30 = .ok (.getfield 34, 3) := by decide +kernel
theorem dX6_move_33 : decode cX6_move 33 = .ok (.iload_n 3, 1) := by decide +kernel
theorem dX6_move_34 : decode cX6_move 34 = .ok (.iaload, 1) := by decide +kernel
theorem dX6_move_35 : decode cX6_move 35 = .ok (.ifCond .ne 9, 3) := by decide +kernel
theorem dX6_move_38 : decode cX6_move 38 = .ok (.aload_n 0, 1) := by decide +kernel
theorem dX6_move_39 : decode cX6_move 39 = .ok (.iconst 2, 1) := by decide +kernel
theorem dX6_move_40 : decode cX6_move 40 = .ok (.invokevirtual 55, 3) := by decide +kernel
theorem dX6_move_43 : decode cX6_move 43 = .ok (.ireturn, 1) := by decide +kernel
theorem dX6_move_44 : decode cX6_move 44 = .ok (.aload_n 0, 1) := by decide +kernel
theorem dX6_move_45 : decode cX6_move 45 = .ok (.getfield 34, 3) := by decide +kernel
theorem dX6_move_48 : decode cX6_move 48 = .ok (.iload_n 1, 1) := by decide +kernel
theorem dX6_move_49 : decode cX6_move 49 = .ok (.iaload, 1) := by decide +kernel
theorem dX6_move_50 : decode cX6_move 50 = .ok (.aload_n 0, 1) := by decide +kernel
theorem dX6_move_51 : decode cX6_move 51 = .ok (.getfield 34, 3) := by decide +kernel
theorem dX6_move_54 : decode cX6_move 54 = .ok (.iload_n 3, 1) := by decide +kernel
theorem dX6_move_55 : decode cX6_move 55 = .ok (.iaload, 1) := by decide +kernel
theorem dX6_move_56 : decode cX6_move 56 = .ok (.if_icmp .eq 9, 3) := by decide +kernel
theorem dX6_move_59 : decode cX6_move 59 = .ok (.aload_n 0, 1) := by decide +kernel
theorem dX6_move_60 : decode cX6_move 60 = .ok (.iconst 5, 1) := by decide +kernel
theorem dX6_move_61 : decode cX6_move 61 = .ok (.invokevirtual 55, 3) := by decide +kernel
theorem dX6_move_64 : decode cX6_move 64 = .ok (.ireturn, 1) := by decide +kernel
theorem dX6_move_65 : decode cX6_move 65 = .ok (.iload 5, 2) := by decide +kernel
theorem dX6_move_67 : decode cX6_move 67 = .ok (.ifCond .lt 39, 3) := by decide +kernel
theorem dX6_move_70 : decode cX6_move 70 = .ok (.iload_n 2, 1) := by decide +kernel
theorem dX6_move_71 : decode cX6_move 71 = .ok (.ifCond .lt 35, 3) := by decide +kernel
theorem dX6_move_74 : decode cX6_move 74 = .ok (.iload 4, 2) := by decide +kernel
theorem dX6_move_76 : decode cX6_move 76 = .ok (.ifCond .lt 30, 3) := by decide +kernel
theorem dX6_move_79 : decode cX6_move 79 = .ok (.iload_n 2, 1) := by decide +kernel
theorem dX6_move_80 : decode cX6_move 80 = .ok (.aload_n 0, 1) := by decide +kernel
theorem dX6_move_81 : decode cX6_move 81 = .ok (.getfield 37, 3) := by decide +kernel
theorem dX6_move_84 : decode cX6_move 84 = .ok (.iload_n 1, 1) := by decide +kernel
theorem dX6_move_85 : decode cX6_move 85 = .ok (.iaload, 1) := by decide +kernel
theorem dX6_move_86 : decode cX6_move 86 = .ok (.iload 5, 2) := by decide +kernel
theorem dX6_move_88 : decode cX6_move 88 = .ok (.isub, 1) := by decide +kernel
theorem dX6_move_89 : decode cX6_move 89 = .ok (.if_icmp .gt 17, 3) := by decide +kernel
theorem dX6_move_92 : decode cX6_move 92 = .ok (.iload 4, 2) := by decide +kernel
theorem dX6_move_94 : decode cX6_move 94 = .ok (.aload_n 0, 1) := by decide +kernel
theorem dX6_move_95 : decode cX6_move 95 = .ok (.getfield 37, 3) := by decide +kernel
theorem dX6_move_98 : decode cX6_move 98 = .ok (.iload_n 3, 1) := by decide +kernel
theorem dX6_move_99 : decode cX6_move 99 = .ok (.iaload, 1) := by decide +kernel
theorem dX6_move_100 : decode cX6_move 100 = .ok (.iload 5, 2) := by decide +kernel
theorem dX6_move_102 : decode cX6_move 102 = .ok (.isub, 1) := by decide +kernel
theorem dX6_move_103 : decode cX6_move 103 = .ok (.if_icmp .le 9, 3) := by decide +kernel
theorem dX6_move_106 : decode cX6_move 106 = .ok (.aload_n 0, 1) := by decide +kernel
theorem dX6_move_107 : decode cX6_move 107 = .ok (.iconst 1, 1) := by decide +kernel
theorem dX6_move_108 : decode cX6_move 108 = .ok (.invokevirtual 55, 3) := by decide +kernel
theorem dX6_move_111 : decode cX6_move 111 = .ok (.ireturn, 1) := by decide +kernel
theorem dX6_move_112 : decode cX6_move 112 = .ok (.iconst 0, 1) := by decide +kernel
theorem dX6_move_113 : decode cX6_move 113 = .ok (.istore 6, 2) := by decide +kernel
theorem dX6_move_115 : decode cX6_move 115 = .ok (.iload 6, 2) := by decide +kernel
theorem dX6_move_117 : decode cX6_move 117 = .ok (.iload 5, 2) := by decide +kernel
theorem dX6_move_119 : decode cX6_move 119 = .ok (.if_icmp .ge 30, 3) := by decide +kernel
theorem dX6_move_122 : decode cX6_move 122 = .ok (.aload_n 0, 1) := by decide +kernel
theorem dX6_move_123 : decode cX6_move 123 = .ok (.getfield 43, 3) := by decide +kernel
theorem dX6_move_126 : decode cX6_move 126 = .ok (.iload 6, 2) := by decide +kernel
theorem dX6_move_128 : decode cX6_move 128 = .ok (.aload_n 0, 1) := by decide +kernel
theorem dX6_move_129 : decode cX6_move 129 = .ok (.getfield 40, 3) := by decide +kernel
theorem dX6_move_132 : decode cX6_move 132 = .ok (.bipush 24, 2) := by decide +kernel
theorem dX6_move_134 : decode cX6_move 134 = .ok (.iload_n 1, 1) := by decide +kernel
theorem dX6_move_135 : decode cX6_move 135 = .ok (.imul, 1) := by decide +kernel
theorem dX6_move_136 : decode cX6_move 136 = .ok (.iload_n 2, 1) := by decide +kernel
theorem dX6_move_137 : decode cX6_move 137 = .ok (.iadd, 1) := by decide +kernel
theorem dX6_move_138 : decode cX6_move 138 = .ok (.iload 6, 2) := by decide +kernel
theorem dX6_move_140 : decode cX6_move 140 = .ok (.iadd, 1) := by decide +kernel
theorem dX6_move_141 : decode cX6_move 141 = .ok (.iaload, 1) := by decide +kernel
theorem dX6_move_142 : decode cX6_move 142 = .ok (.iastore, 1) := by decide +kernel
theorem dX6_move_143 : decode cX6_move 143 = .ok (.iinc 6 1, 3) := by decide +kernel
theorem dX6_move_146 : decode cX6_move 146 = .ok (.goto (-31), 3) := by decide +kernel
theorem dX6_move_149 : decode cX6_move 149 = .ok (.iconst 0, 1) := by decide +kernel
theorem dX6_move_150 : decode cX6_move 150 = .ok (.istore 6, 2) := by decide +kernel
theorem dX6_move_152 : decode cX6_move 152 = .ok (.iload 6, 2) := by decide +kernel
theorem dX6_move_154 : decode cX6_move 154 = .ok (.iload 5, 2) := by decide +kernel
theorem dX6_move_156 : decode cX6_move 156 = .ok (.if_icmp .ge 31, 3) := by decide +kernel
theorem dX6_move_159 : decode cX6_move 159 = .ok (.aload_n 0, 1) := by decide +kernel
theorem dX6_move_160 : decode cX6_move 160 = .ok (.getfield 40, 3) := by decide +kernel
theorem dX6_move_163 : decode cX6_move 163 = .ok (.bipush 24, 2) := by decide +kernel
theorem dX6_move_165 : decode cX6_move 165 = .ok (.iload_n 3, 1) := by decide +kernel
theorem dX6_move_166 : decode cX6_move 166 = .ok (.imul, 1) := by decide +kernel
theorem dX6_move_167 : decode cX6_move 167 = .ok (.iload 4, 2) := by decide +kernel
theorem dX6_move_169 : decode cX6_move 169 = .ok (.iadd, 1) := by decide +kernel
theorem dX6_move_170 : decode cX6_move 170 = .ok (.iload 6, 2) := by decide +kernel
theorem dX6_move_172 : decode cX6_move 172 = .ok (.iadd, 1) := by decide +kernel
theorem dX6_move_173 : decode cX6_move 173 = .ok (.aload_n 0, 1) := by decide +kernel
theorem dX6_move_174 : decode cX6_move 174 = .ok (.getfield 43, 3) := by decide +kernel
theorem dX6_move_177 : decode cX6_move 177 = .ok (.iload 6, 2) := by decide +kernel
theorem dX6_move_179 : decode cX6_move 179 = .ok (.iaload, 1) := by decide +kernel
theorem dX6_move_180 : decode cX6_move 180 = .ok (.iastore, 1) := by decide +kernel
theorem dX6_move_181 : decode cX6_move 181 = .ok (.iinc 6 1, 3) := by decide +kernel
theorem dX6_move_184 : decode cX6_move 184 = .ok (.goto (-32), 3) := by decide +kernel
theorem dX6_move_187 : decode cX6_move 187 = .ok (.iload 5, 2) := by decide +kernel
theorem dX6_move_189 : decode cX6_move 189 = .ok (.ireturn, 1) := by decide +kernel
set_option maxRecDepth 20000 in
theorem ggX6_lacks_X6_isSheet : GoodIn wsX6_lacks wsX6_isSheet := goodIn_r _ [5, 6, 7, 4, 8] (by decide +kernel) (by decide +kernel)
set_option maxRecDepth 20000 in
theorem gX6_lacks_X6_isSheet : GoodIn wsX6_lacks (va_wsS RX6 236 yX6_isSheet wsX6_isSheet) := goodIn_app (goodIn_of _ (by decide +kernel)) ggX6_lacks_X6_isSheet
theorem dX6_lacks_0 : decode cX6_lacks 0 = .ok (.iload_n 1, 1) := by decide +kernel
theorem dX6_lacks_1 : decode cX6_lacks 1 = .ok (.invokestatic 236, 3) := by decide +kernel
theorem dX6_lacks_4 : decode cX6_lacks 4 = .ok (.ifCond .ne 7, 3) := by decide +kernel
theorem dX6_lacks_7 : decode cX6_lacks 7 = .ok (.iconst 1, 1) := by decide +kernel
theorem dX6_lacks_8 : decode cX6_lacks 8 = .ok (.goto 17, 3) := by decide +kernel
theorem dX6_lacks_11 : decode cX6_lacks 11 = .ok (.aload_n 0, 1) := by decide +kernel
theorem dX6_lacks_12 : decode cX6_lacks 12 = .ok (.getfield 34, 3) := by decide +kernel
theorem dX6_lacks_15 : decode cX6_lacks 15 = .ok (.iload_n 1, 1) := by decide +kernel
theorem dX6_lacks_16 : decode cX6_lacks 16 = .ok (.iaload, 1) := by decide +kernel
theorem dX6_lacks_17 : decode cX6_lacks 17 = .ok (.ifCond .ne 7, 3) := by decide +kernel
theorem dX6_lacks_20 : decode cX6_lacks 20 = .ok (.iconst 2, 1) := by decide +kernel
theorem dX6_lacks_21 : decode cX6_lacks 21 = .ok (.goto 4, 3) := by decide +kernel
theorem dX6_lacks_24 : decode cX6_lacks 24 = .ok (.iconst 0, 1) := by decide +kernel
theorem dX6_lacks_25 : decode cX6_lacks 25 = .ok (.ireturn, 1) := by decide +kernel
set_option maxRecDepth 20000 in
theorem ggX6_rises_X6_lacks : GoodIn wsX6_rises wsX6_lacks := goodIn_r _ [8, 9, 10, 11, 7, 12, 13, 14, 15, 26, 27, 28, 29, 30, 31, 32, 33, 34, 35, 36, 37, 38, 39, 40, 41, 42, 43, 44, 45] (by decide +kernel) (by decide +kernel)
set_option maxRecDepth 20000 in
theorem gX6_rises_X6_lacks : GoodIn wsX6_rises (wsV RX6 196 RX6 yX6_lacks wsX6_lacks) := goodIn_app (goodIn_of _ (by decide +kernel)) ggX6_rises_X6_lacks
set_option maxRecDepth 20000 in
theorem ggX6_rises_X6_error : GoodIn wsX6_rises wsX6_error := goodIn_r _ [19, 20, 21, 26, 27, 28, 29, 30, 31, 32, 33, 34, 35, 36, 37, 38, 39, 40, 41, 42, 43, 44, 45] (by decide +kernel) (by decide +kernel)
set_option maxRecDepth 20000 in
theorem gX6_rises_X6_error : GoodIn wsX6_rises (wsV RX6 55 RX6 yX6_error wsX6_error) := goodIn_app (goodIn_of _ (by decide +kernel)) ggX6_rises_X6_error
set_option maxRecDepth 20000 in
theorem ggX6_rises_X6_isStep : GoodIn wsX6_rises wsX6_isStep := goodIn_r _ [25, 3, 13, 14, 7, 15, 26, 27, 28, 29, 30, 31, 32, 33, 34, 35, 36, 37, 38, 39, 40, 41, 42, 43, 44, 45] (by decide +kernel) (by decide +kernel)
set_option maxRecDepth 20000 in
theorem gX6_rises_X6_isStep : GoodIn wsX6_rises (wsV RX6 142 RX6 yX6_isStep wsX6_isStep) := goodIn_app (goodIn_of _ (by decide +kernel)) ggX6_rises_X6_isStep
set_option maxRecDepth 20000 in
theorem ggX6_rises_X6_in : GoodIn wsX6_rises wsX6_in := goodIn_r _ [15] (by decide +kernel) (by decide +kernel)
set_option maxRecDepth 20000 in
theorem gX6_rises_X6_in : GoodIn wsX6_rises (va_wsS RX6 51 yX6_in wsX6_in) := goodIn_app (goodIn_of _ (by decide +kernel)) ggX6_rises_X6_in
theorem dX6_rises_0 : decode cX6_rises 0 = .ok (.aload_n 0, 1) := by decide +kernel
theorem dX6_rises_1 : decode cX6_rises 1 = .ok (.iload_n 1, 1) := by decide +kernel
theorem dX6_rises_2 : decode cX6_rises 2 = .ok (.invokevirtual 196, 3) := by decide +kernel
theorem dX6_rises_5 : decode cX6_rises 5 = .ok (.istore_n 2, 1) := by decide +kernel
theorem dX6_rises_6 : decode cX6_rises 6 = .ok (.iload_n 2, 1) := by decide +kernel
theorem dX6_rises_7 : decode cX6_rises 7 = .ok (.ifCond .eq 9, 3) := by decide +kernel
theorem dX6_rises_10 : decode cX6_rises 10 = .ok (.aload_n 0, 1) := by decide +kernel
theorem dX6_rises_11 : decode cX6_rises 11 = .ok (.iload_n 2, 1) := by decide +kernel
theorem dX6_rises_12 : decode cX6_rises 12 = .ok (.invokevirtual 55, 3) := by decide +kernel
theorem dX6_rises_15 : decode cX6_rises 15 = .ok (.ireturn, 1) := by decide +kernel
theorem dX6_rises_16 : decode cX6_rises 16 = .ok (.iconst 0, 1) := by decide +kernel
theorem dX6_rises_17 : decode cX6_rises 17 = .ok (.istore_n 3, 1) := by decide +kernel
theorem dX6_rises_18 : decode cX6_rises 18 = .ok (.iload_n 3, 1) := by decide +kernel
theorem dX6_rises_19 : decode cX6_rises 19 = .ok (.aload_n 0, 1) := by decide +kernel
theorem dX6_rises_20 : decode cX6_rises 20 = .ok (.getfield 37, 3) := by decide +kernel
theorem dX6_rises_23 : decode cX6_rises 23 = .ok (.iload_n 1, 1) := by decide +kernel
theorem dX6_rises_24 : decode cX6_rises 24 = .ok (.iaload, 1) := by decide +kernel
theorem dX6_rises_25 : decode cX6_rises 25 = .ok (.if_icmp .ge 58, 3) := by decide +kernel
theorem dX6_rises_28 : decode cX6_rises 28 = .ok (.aload_n 0, 1) := by decide +kernel
theorem dX6_rises_29 : decode cX6_rises 29 = .ok (.iload_n 3, 1) := by decide +kernel
theorem dX6_rises_30 : decode cX6_rises 30 = .ok (.invokevirtual 142, 3) := by decide +kernel
theorem dX6_rises_33 : decode cX6_rises 33 = .ok (.ifCond .eq 50, 3) := by decide +kernel
theorem dX6_rises_36 : decode cX6_rises 36 = .ok (.aload_n 0, 1) := by decide +kernel
theorem dX6_rises_37 : decode cX6_rises 37 = .ok (.getfield 40, 3) := by decide +kernel
theorem dX6_rises_40 : decode cX6_rises 40 = .ok (.bipush 24, 2) := by decide +kernel
theorem dX6_rises_42 : decode cX6_rises 42 = .ok (.iload_n 1, 1) := by decide +kernel
theorem dX6_rises_43 : decode cX6_rises 43 = .ok (.imul, 1) := by decide +kernel
theorem dX6_rises_44 : decode cX6_rises 44 = .ok (.iload_n 3, 1) := by decide +kernel
theorem dX6_rises_45 : decode cX6_rises 45 = .ok (.iadd, 1) := by decide +kernel
theorem dX6_rises_46 : decode cX6_rises 46 = .ok (.iaload, 1) := by decide +kernel
theorem dX6_rises_47 : decode cX6_rises 47 = .ok (.bipush (-9), 2) := by decide +kernel
theorem dX6_rises_49 : decode cX6_rises 49 = .ok (.bipush 9, 2) := by decide +kernel
theorem dX6_rises_51 : decode cX6_rises 51 = .ok (.invokestatic 51, 3) := by decide +kernel
theorem dX6_rises_54 : decode cX6_rises 54 = .ok (.ifCond .eq 29, 3) := by decide +kernel
theorem dX6_rises_57 : decode cX6_rises 57 = .ok (.aload_n 0, 1) := by decide +kernel
theorem dX6_rises_58 : decode cX6_rises 58 = .ok (.getfield 7, 3) := by decide +kernel
theorem dX6_rises_61 : decode cX6_rises 61 = .ok (.bipush 32, 2) := by decide +kernel
theorem dX6_rises_63 : decode cX6_rises 63 = .ok (.iload_n 3, 1) := by decide +kernel
theorem dX6_rises_64 : decode cX6_rises 64 = .ok (.iadd, 1) := by decide +kernel
theorem dX6_rises_65 : decode cX6_rises 65 = .ok (.aload_n 0, 1) := by decide +kernel
theorem dX6_rises_66 : decode cX6_rises 66 = .ok (.getfield 40, 3) := by decide +kernel
theorem dX6_rises_69 : decode cX6_rises 69 = .ok (.bipush 24, 2) := by decide +kernel
theorem dX6_rises_71 : decode cX6_rises 71 = .ok (.iload_n 1, 1) := by decide +kernel
theorem dX6_rises_72 : decode cX6_rises 72 = .ok (.imul, 1) := by decide +kernel
theorem dX6_rises_73 : decode cX6_rises 73 = .ok (.iload_n 3, 1) := by decide +kernel
theorem dX6_rises_74 : decode cX6_rises 74 = .ok (.iadd, 1) := by decide +kernel
theorem dX6_rises_75 : decode cX6_rises 75 = .ok (.iaload, 1) := by decide +kernel
theorem dX6_rises_76 : decode cX6_rises 76 = .ok (.iastore, 1) := by decide +kernel
theorem dX6_rises_77 : decode cX6_rises 77 = .ok (.iinc 3 1, 3) := by decide +kernel
theorem dX6_rises_80 : decode cX6_rises 80 = .ok (.goto (-62), 3) := by decide +kernel
theorem dX6_rises_83 : decode cX6_rises 83 = .ok (.iload_n 3, 1) := by decide +kernel
theorem dX6_rises_84 : decode cX6_rises 84 = .ok (.ireturn, 1) := by decide +kernel
set_option maxRecDepth 20000 in
theorem ggX6_judge_X6_lacks : GoodIn wsX6_judge wsX6_lacks := goodIn_r _ [7, 8, 9, 10, 6, 11, 12, 13, 14, 30, 31, 32, 33, 34, 35, 36, 37, 38, 39, 40, 41, 42, 43, 44, 45, 46, 47, 48, 49] (by decide +kernel) (by decide +kernel)
set_option maxRecDepth 20000 in
theorem gX6_judge_X6_lacks : GoodIn wsX6_judge (wsV RX6 196 RX6 yX6_lacks wsX6_lacks) := goodIn_app (goodIn_of _ (by decide +kernel)) ggX6_judge_X6_lacks
set_option maxRecDepth 20000 in
theorem ggX6_judge_X6_error : GoodIn wsX6_judge wsX6_error := goodIn_r _ [18, 19, 20, 30, 31, 32, 33, 34, 35, 36, 37, 38, 39, 40, 41, 42, 43, 44, 45, 46, 47, 48, 49] (by decide +kernel) (by decide +kernel)
set_option maxRecDepth 20000 in
theorem gX6_judge_X6_error : GoodIn wsX6_judge (wsV RX6 55 RX6 yX6_error wsX6_error) := goodIn_app (goodIn_of _ (by decide +kernel)) ggX6_judge_X6_error
set_option maxRecDepth 20000 in
theorem ggX6_judge_X6_isClimber : GoodIn wsX6_judge wsX6_isClimber := goodIn_r _ [24, 25, 12, 13, 6, 14, 30, 31, 32, 33, 34, 35, 36, 37, 38, 39, 40, 41, 42, 43, 44, 45, 46, 47, 48, 49] (by decide +kernel) (by decide +kernel)
set_option maxRecDepth 20000 in
theorem gX6_judge_X6_isClimber : GoodIn wsX6_judge (wsV RX6 154 RX6 yX6_isClimber wsX6_isClimber) := goodIn_app (goodIn_of _ (by decide +kernel)) ggX6_judge_X6_isClimber
set_option maxRecDepth 20000 in
theorem ggX6_judge_X6_its : GoodIn wsX6_judge wsX6_its := goodIn_r _ [29, 25, 30, 31, 32, 33, 34, 35, 36, 37, 38, 39, 40, 41, 42, 43, 44, 45, 46, 47, 48, 49] (by decide +kernel) (by decide +kernel)
set_option maxRecDepth 20000 in
theorem gX6_judge_X6_its : GoodIn wsX6_judge (wsV RX6 115 RX6 yX6_its wsX6_its) := goodIn_app (goodIn_of _ (by decide +kernel)) ggX6_judge_X6_its
theorem dX6_judge_0 : decode cX6_judge 0 = .ok (.aload_n 0, 1) := by decide +kernel
theorem dX6_judge_1 : decode cX6_judge 1 = .ok (.iload_n 1, 1) := by decide +kernel
theorem dX6_judge_2 : decode cX6_judge 2 = .ok (.invokevirtual 196, 3) := by decide +kernel
theorem dX6_judge_5 : decode cX6_judge 5 = .ok (.istore_n 2, 1) := by decide +kernel
theorem dX6_judge_6 : decode cX6_judge 6 = .ok (.iload_n 2, 1) := by decide +kernel
theorem dX6_judge_7 : decode cX6_judge 7 = .ok (.ifCond .eq 9, 3) := by decide +kernel
theorem dX6_judge_10 : decode cX6_judge 10 = .ok (.aload_n 0, 1) := by decide +kernel
theorem dX6_judge_11 : decode cX6_judge 11 = .ok (.iload_n 2, 1) := by decide +kernel
theorem dX6_judge_12 : decode cX6_judge 12 = .ok (.invokevirtual 55, 3) := by decide +kernel
theorem dX6_judge_15 : decode cX6_judge 15 = .ok (.ireturn, 1) := by decide +kernel
theorem dX6_judge_16 : decode cX6_judge 16 = .ok (.iconst 0, 1) := by decide +kernel
theorem dX6_judge_17 : decode cX6_judge 17 = .ok (.istore_n 3, 1) := by decide +kernel
theorem dX6_judge_18 : decode cX6_judge 18 = .ok (.iload_n 3, 1) := by decide +kernel
theorem dX6_judge_19 : decode cX6_judge 19 = .ok (.aload_n 0, 1) := by decide +kernel
theorem dX6_judge_20 : decode cX6_judge 20 = .ok (.getfield 37, 3) := by decide +kernel
theorem dX6_judge_23 : decode cX6_judge 23 = .ok (.iload_n 1, 1) := by decide +kernel
theorem dX6_judge_24 : decode cX6_judge 24 = .ok (.iaload, 1) := by decide +kernel
theorem dX6_judge_25 : decode cX6_judge 25 = .ok (.if_icmp .ge 37, 3) := by decide +kernel
theorem dX6_judge_28 : decode cX6_judge 28 = .ok (.aload_n 0, 1) := by decide +kernel
theorem dX6_judge_29 : decode cX6_judge 29 = .ok (.iload_n 3, 1) := by decide +kernel
theorem dX6_judge_30 : decode cX6_judge 30 = .ok (.invokevirtual 154, 3) := by decide +kernel
theorem dX6_judge_33 : decode cX6_judge 33 = .ok (.ifCond .eq 29, 3) := by decide +kernel
theorem dX6_judge_36 : decode cX6_judge 36 = .ok (.aload_n 0, 1) := by decide +kernel
theorem dX6_judge_37 : decode cX6_judge 37 = .ok (.iload_n 3, 1) := by decide +kernel
theorem dX6_judge_38 : decode cX6_judge 38 = .ok (.iconst 2, 1) := by decide +kernel
theorem dX6_judge_39 : decode cX6_judge 39 = .ok (.invokevirtual 115, 3) := by decide +kernel
theorem dX6_judge_42 : decode cX6_judge 42 = .ok (.aload_n 0, 1) := by decide +kernel
theorem dX6_judge_43 : decode cX6_judge 43 = .ok (.getfield 40, 3) := by decide +kernel
theorem dX6_judge_46 : decode cX6_judge 46 = .ok (.bipush 24, 2) := by decide +kernel
theorem dX6_judge_48 : decode cX6_judge 48 = .ok (.iload_n 1, 1) := by decide +kernel
theorem dX6_judge_49 : decode cX6_judge 49 = .ok (.imul, 1) := by decide +kernel
theorem dX6_judge_50 : decode cX6_judge 50 = .ok (.iload_n 3, 1) := by decide +kernel
theorem dX6_judge_51 : decode cX6_judge 51 = .ok (.iadd, 1) := by decide +kernel
theorem dX6_judge_52 : decode cX6_judge 52 = .ok (.iaload, 1) := by decide +kernel
theorem dX6_judge_53 : decode cX6_judge 53 = .ok (.if_icmp .ne 9, 3) := by decide +kernel
theorem dX6_judge_56 : decode cX6_judge 56 = .ok (.iinc 3 1, 3) := by decide +kernel
theorem dX6_judge_59 : decode cX6_judge 59 = .ok (.goto (-41), 3) := by decide +kernel
theorem dX6_judge_62 : decode cX6_judge 62 = .ok (.iload_n 3, 1) := by decide +kernel
theorem dX6_judge_63 : decode cX6_judge 63 = .ok (.ireturn, 1) := by decide +kernel
set_option maxRecDepth 20000 in
theorem ggX6_image_X6_copyAll : GoodIn wsX6_image wsX6_copyAll := goodIn_r _ [7] (by decide +kernel) (by decide +kernel)
set_option maxRecDepth 20000 in
theorem gX6_image_X6_copyAll : GoodIn wsX6_image (va_wsS RX6 239 yX6_copyAll wsX6_copyAll) := goodIn_app (goodIn_of _ (by decide +kernel)) ggX6_image_X6_copyAll
theorem dX6_image_0 : decode cX6_image 0 = .ok (.aload_n 0, 1) := by decide +kernel
theorem dX6_image_1 : decode cX6_image 1 = .ok (.getfield 7, 3) := by decide +kernel
theorem dX6_image_4 : decode cX6_image 4 = .ok (.aload_n 0, 1) := by decide +kernel
theorem dX6_image_5 : decode cX6_image 5 = .ok (.getfield 13, 3) := by decide +kernel
theorem dX6_image_8 : decode cX6_image 8 = .ok (.invokestatic 239, 3) := by decide +kernel
theorem dX6_image_11 : decode cX6_image 11 = .ok (.aload_n 0, 1) := by decide +kernel
theorem dX6_image_12 : decode cX6_image 12 = .ok (.dup, 1) := by decide +kernel
theorem dX6_image_13 : decode cX6_image 13 = .ok (.getfield 243, 3) := by decide +kernel
theorem dX6_image_16 : decode cX6_image 16 = .ok (.iconst 1, 1) := by decide +kernel
theorem dX6_image_17 : decode cX6_image 17 = .ok (.iadd, 1) := by decide +kernel
theorem dX6_image_18 : decode cX6_image 18 = .ok (.putfield 243, 3) := by decide +kernel
theorem dX6_image_21 : decode cX6_image 21 = .ok (.aload_n 0, 1) := by decide +kernel
theorem dX6_image_22 : decode cX6_image 22 = .ok (.getfield 243, 3) := by decide +kernel
theorem dX6_image_25 : decode cX6_image 25 = .ok (.ireturn, 1) := by decide +kernel
set_option maxRecDepth 20000 in
theorem ggX6_restore_X6_error : GoodIn wsX6_restore wsX6_error := goodIn_r _ [8, 9, 10, 14, 15, 16, 17, 18, 19, 20, 21, 22, 23, 24, 25, 26, 27, 28, 29, 30, 31, 32, 33] (by decide +kernel) (by decide +kernel)
set_option maxRecDepth 20000 in
theorem gX6_restore_X6_error : GoodIn wsX6_restore (wsV RX6 55 RX6 yX6_error wsX6_error) := goodIn_app (goodIn_of _ (by decide +kernel)) ggX6_restore_X6_error
set_option maxRecDepth 20000 in
theorem ggX6_restore_X6_copyAll : GoodIn wsX6_restore wsX6_copyAll := goodIn_r _ [13] (by decide +kernel) (by decide +kernel)
set_option maxRecDepth 20000 in
theorem gX6_restore_X6_copyAll : GoodIn wsX6_restore (va_wsS RX6 239 yX6_copyAll wsX6_copyAll) := goodIn_app (goodIn_of _ (by decide +kernel)) ggX6_restore_X6_copyAll
theorem dX6_restore_0 : decode cX6_restore 0 = .ok (.aload_n 0, 1) := by decide +kernel
theorem dX6_restore_1 : decode cX6_restore 1 = .ok (.getfield 243, 3) := by decide +kernel
theorem dX6_restore_4 : decode cX6_restore 4 = .ok (.ifCond .ne 9, 3) := by decide +kernel
theorem dX6_restore_7 : decode cX6_restore 7 = .ok (.aload_n 0, 1) := by decide +kernel
theorem dX6_restore_8 : decode cX6_restore 8 = .ok (.iconst 2, 1) := by decide +kernel
theorem dX6_restore_9 : decode cX6_restore 9 = .ok (.invokevirtual 55, 3) := by decide +kernel
theorem dX6_restore_12 : decode cX6_restore 12 = .ok (.ireturn, 1) := by decide +kernel
theorem dX6_restore_13 : decode cX6_restore 13 = .ok (.aload_n 0, 1) := by decide +kernel
theorem dX6_restore_14 : decode cX6_restore 14 = .ok (.getfield 13, 3) := by decide +kernel
theorem dX6_restore_17 : decode cX6_restore 17 = .ok (.aload_n 0, 1) := by decide +kernel
theorem dX6_restore_18 : decode cX6_restore 18 = .ok (.getfield 7, 3) := by decide +kernel
theorem dX6_restore_21 : decode cX6_restore 21 = .ok (.invokestatic 239, 3) := by decide +kernel
theorem dX6_restore_24 : decode cX6_restore 24 = .ok (.aload_n 0, 1) := by decide +kernel
theorem dX6_restore_25 : decode cX6_restore 25 = .ok (.getfield 7, 3) := by decide +kernel
theorem dX6_restore_28 : decode cX6_restore 28 = .ok (.iconst 0, 1) := by decide +kernel
theorem dX6_restore_29 : decode cX6_restore 29 = .ok (.iaload, 1) := by decide +kernel
theorem dX6_restore_30 : decode cX6_restore 30 = .ok (.ireturn, 1) := by decide +kernel
set_option maxRecDepth 20000 in
theorem ggX6_tell_X6_error : GoodIn wsX6_tell wsX6_error := goodIn_r _ [6, 7, 8, 9, 10, 11, 12, 13, 14, 15, 16, 17, 18, 19, 20, 21, 22, 23, 24, 25, 26, 27, 28] (by decide +kernel) (by decide +kernel)
set_option maxRecDepth 20000 in
theorem gX6_tell_X6_error : GoodIn wsX6_tell (wsV RX6 55 RX6 yX6_error wsX6_error) := goodIn_app (goodIn_of _ (by decide +kernel)) ggX6_tell_X6_error
theorem dX6_tell_0 : decode cX6_tell 0 = .ok (.aload_n 0, 1) := by decide +kernel
theorem dX6_tell_1 : decode cX6_tell 1 = .ok (.getfield 7, 3) := by decide +kernel
theorem dX6_tell_4 : decode cX6_tell 4 = .ok (.iconst 5, 1) := by decide +kernel
theorem dX6_tell_5 : decode cX6_tell 5 = .ok (.iaload, 1) := by decide +kernel
theorem dX6_tell_6 : decode cX6_tell 6 = .ok (.bipush 24, 2) := by decide +kernel
theorem dX6_tell_8 : decode cX6_tell 8 = .ok (.if_icmp .ne 9, 3) := by decide +kernel
theorem dX6_tell_11 : decode cX6_tell 11 = .ok (.aload_n 0, 1) := by decide +kernel
theorem dX6_tell_12 : decode cX6_tell 12 = .ok (.iconst 4, 1) := by decide +kernel
theorem dX6_tell_13 : decode cX6_tell 13 = .ok (.invokevirtual 55, 3) := by decide +kernel
theorem dX6_tell_16 : decode cX6_tell 16 = .ok (.ireturn, 1) := by decide +kernel
theorem dX6_tell_17 : decode cX6_tell 17 = .ok (.aload_n 0, 1) := by decide +kernel
theorem dX6_tell_18 : decode cX6_tell 18 = .ok (.getfield 7, 3) := by decide +kernel
theorem dX6_tell_21 : decode cX6_tell 21 = .ok (.sipush 356, 3) := by decide +kernel
theorem dX6_tell_24 : decode cX6_tell 24 = .ok (.aload_n 0, 1) := by decide +kernel
theorem dX6_tell_25 : decode cX6_tell 25 = .ok (.getfield 7, 3) := by decide +kernel
theorem dX6_tell_28 : decode cX6_tell 28 = .ok (.iconst 5, 1) := by decide +kernel
theorem dX6_tell_29 : decode cX6_tell 29 = .ok (.iaload, 1) := by decide +kernel
theorem dX6_tell_30 : decode cX6_tell 30 = .ok (.iadd, 1) := by decide +kernel
theorem dX6_tell_31 : decode cX6_tell 31 = .ok (.iload_n 1, 1) := by decide +kernel
theorem dX6_tell_32 : decode cX6_tell 32 = .ok (.iastore, 1) := by decide +kernel
theorem dX6_tell_33 : decode cX6_tell 33 = .ok (.aload_n 0, 1) := by decide +kernel
theorem dX6_tell_34 : decode cX6_tell 34 = .ok (.getfield 7, 3) := by decide +kernel
theorem dX6_tell_37 : decode cX6_tell 37 = .ok (.iconst 5, 1) := by decide +kernel
theorem dX6_tell_38 : decode cX6_tell 38 = .ok (.dup2, 1) := by decide +kernel
theorem dX6_tell_39 : decode cX6_tell 39 = .ok (.iaload, 1) := by decide +kernel
theorem dX6_tell_40 : decode cX6_tell 40 = .ok (.iconst 1, 1) := by decide +kernel
theorem dX6_tell_41 : decode cX6_tell 41 = .ok (.iadd, 1) := by decide +kernel
theorem dX6_tell_42 : decode cX6_tell 42 = .ok (.iastore, 1) := by decide +kernel
theorem dX6_tell_43 : decode cX6_tell 43 = .ok (.aload_n 0, 1) := by decide +kernel
theorem dX6_tell_44 : decode cX6_tell 44 = .ok (.getfield 7, 3) := by decide +kernel
theorem dX6_tell_47 : decode cX6_tell 47 = .ok (.iconst 5, 1) := by decide +kernel
theorem dX6_tell_48 : decode cX6_tell 48 = .ok (.iaload, 1) := by decide +kernel
theorem dX6_tell_49 : decode cX6_tell 49 = .ok (.ireturn, 1) := by decide +kernel
set_option maxRecDepth 20000 in
theorem ggX6_check_X6_isClimber : GoodIn wsX6_check wsX6_isClimber := goodIn_r _ [6, 1, 7, 8, 5, 9, 14, 15, 16, 17, 18, 19, 20, 21, 22, 23, 24, 25, 26, 27, 28, 29, 30, 31, 32, 33] (by decide +kernel) (by decide +kernel)
set_option maxRecDepth 20000 in
theorem gX6_check_X6_isClimber : GoodIn wsX6_check (wsV RX6 154 RX6 yX6_isClimber wsX6_isClimber) := goodIn_app (goodIn_of _ (by decide +kernel)) ggX6_check_X6_isClimber
set_option maxRecDepth 20000 in
theorem ggX6_check_X6_its : GoodIn wsX6_check wsX6_its := goodIn_r _ [13, 1, 14, 15, 16, 17, 18, 19, 20, 21, 22, 23, 24, 25, 26, 27, 28, 29, 30, 31, 32, 33] (by decide +kernel) (by decide +kernel)
set_option maxRecDepth 20000 in
theorem gX6_check_X6_its : GoodIn wsX6_check (wsV RX6 115 RX6 yX6_its wsX6_its) := goodIn_app (goodIn_of _ (by decide +kernel)) ggX6_check_X6_its
theorem dX6_check_0 : decode cX6_check 0 = .ok (.aload_n 0, 1) := by decide +kernel
theorem dX6_check_1 : decode cX6_check 1 = .ok (.getfield 7, 3) := by decide +kernel
theorem dX6_check_4 : decode cX6_check 4 = .ok (.iconst 5, 1) := by decide +kernel
theorem dX6_check_5 : decode cX6_check 5 = .ok (.iaload, 1) := by decide +kernel
theorem dX6_check_6 : decode cX6_check 6 = .ok (.istore_n 1, 1) := by decide +kernel
theorem dX6_check_7 : decode cX6_check 7 = .ok (.aload_n 0, 1) := by decide +kernel
theorem dX6_check_8 : decode cX6_check 8 = .ok (.getfield 7, 3) := by decide +kernel
theorem dX6_check_11 : decode cX6_check 11 = .ok (.iconst 5, 1) := by decide +kernel
theorem dX6_check_12 : decode cX6_check 12 = .ok (.iconst 0, 1) := by decide +kernel
theorem dX6_check_13 : decode cX6_check 13 = .ok (.iastore, 1) := by decide +kernel
theorem dX6_check_14 : decode cX6_check 14 = .ok (.iconst 0, 1) := by decide +kernel
theorem dX6_check_15 : decode cX6_check 15 = .ok (.istore_n 2, 1) := by decide +kernel
theorem dX6_check_16 : decode cX6_check 16 = .ok (.iload_n 2, 1) := by decide +kernel
theorem dX6_check_17 : decode cX6_check 17 = .ok (.iload_n 1, 1) := by decide +kernel
theorem dX6_check_18 : decode cX6_check 18 = .ok (.if_icmp .ge 40, 3) := by decide +kernel
theorem dX6_check_21 : decode cX6_check 21 = .ok (.aload_n 0, 1) := by decide +kernel
theorem dX6_check_22 : decode cX6_check 22 = .ok (.iload_n 2, 1) := by decide +kernel
theorem dX6_check_23 : decode cX6_check 23 = .ok (.invokevirtual 154, 3) := by decide +kernel
theorem dX6_check_26 : decode cX6_check 26 = .ok (.ifCond .eq 22, 3) := by decide +kernel
theorem dX6_check_29 : decode cX6_check 29 = .ok (.aload_n 0, 1) := by decide +kernel
theorem dX6_check_30 : decode cX6_check 30 = .ok (.getfield 7, 3) := by decide +kernel
theorem dX6_check_33 : decode cX6_check 33 = .ok (.sipush 356, 3) := by decide +kernel
theorem dX6_check_36 : decode cX6_check 36 = .ok (.iload_n 2, 1) := by decide +kernel
theorem dX6_check_37 : decode cX6_check 37 = .ok (.iadd, 1) := by decide +kernel
theorem dX6_check_38 : decode cX6_check 38 = .ok (.iaload, 1) := by decide +kernel
theorem dX6_check_39 : decode cX6_check 39 = .ok (.aload_n 0, 1) := by decide +kernel
theorem dX6_check_40 : decode cX6_check 40 = .ok (.iload_n 2, 1) := by decide +kernel
theorem dX6_check_41 : decode cX6_check 41 = .ok (.iconst 3, 1) := by decide +kernel
theorem dX6_check_42 : decode cX6_check 42 = .ok (.invokevirtual 115, 3) := by decide +kernel
theorem dX6_check_45 : decode cX6_check 45 = .ok (.if_icmp .eq 7, 3) := by decide +kernel
theorem dX6_check_48 : decode cX6_check 48 = .ok (.iconst 1, 1) := by decide +kernel
theorem dX6_check_49 : decode cX6_check 49 = .ok (.iload_n 2, 1) := by decide +kernel
theorem dX6_check_50 : decode cX6_check 50 = .ok (.iadd, 1) := by decide +kernel
theorem dX6_check_51 : decode cX6_check 51 = .ok (.ireturn, 1) := by decide +kernel
theorem dX6_check_52 : decode cX6_check 52 = .ok (.iinc 2 1, 3) := by decide +kernel
theorem dX6_check_55 : decode cX6_check 55 = .ok (.goto (-39), 3) := by decide +kernel
theorem dX6_check_58 : decode cX6_check 58 = .ok (.iconst 0, 1) := by decide +kernel
theorem dX6_check_59 : decode cX6_check 59 = .ok (.ireturn, 1) := by decide +kernel
set_option maxRecDepth 20000 in
theorem ggX6_count_X6_pairs : GoodIn wsX6_count wsX6_pairs := goodIn_r _ [7, 1, 8, 9, 10, 6, 11, 18, 19, 20, 21, 22, 23, 24, 25, 26, 27, 28, 29, 30, 31, 32, 33, 34, 35, 36, 37] (by decide +kernel) (by decide +kernel)
set_option maxRecDepth 20000 in
theorem gX6_count_X6_pairs : GoodIn wsX6_count (wsV RX6 169 RX6 yX6_pairs wsX6_pairs) := goodIn_app (goodIn_of _ (by decide +kernel)) ggX6_count_X6_pairs
set_option maxRecDepth 20000 in
theorem ggX6_count_X6_error : GoodIn wsX6_count wsX6_error := goodIn_r _ [15, 16, 17, 18, 19, 20, 21, 22, 23, 24, 25, 26, 27, 28, 29, 30, 31, 32, 33, 34, 35, 36, 37] (by decide +kernel) (by decide +kernel)
set_option maxRecDepth 20000 in
theorem gX6_count_X6_error : GoodIn wsX6_count (wsV RX6 55 RX6 yX6_error wsX6_error) := goodIn_app (goodIn_of _ (by decide +kernel)) ggX6_count_X6_error
theorem dX6_count_0 : decode cX6_count 0 = .ok (.iload_n 1, 1) := by decide +kernel
theorem dX6_count_1 : decode cX6_count 1 = .ok (.tableswitch 111 0 8 #[51, 59, 66, 73, 80, 85, 92, 99, 104], 51) := by decide +kernel
theorem dX6_count_52 : decode cX6_count 52 = .ok (.aload_n 0, 1) := by decide +kernel
theorem dX6_count_53 : decode cX6_count 53 = .ok (.getfield 7, 3) := by decide +kernel
theorem dX6_count_56 : decode cX6_count 56 = .ok (.bipush 6, 2) := by decide +kernel
theorem dX6_count_58 : decode cX6_count 58 = .ok (.iaload, 1) := by decide +kernel
theorem dX6_count_59 : decode cX6_count 59 = .ok (.ireturn, 1) := by decide +kernel
theorem dX6_count_60 : decode cX6_count 60 = .ok (.aload_n 0, 1) := by decide +kernel
theorem dX6_count_61 : decode cX6_count 61 = .ok (.getfield 7, 3) := by decide +kernel
theorem dX6_count_64 : decode cX6_count 64 = .ok (.iconst 1, 1) := by decide +kernel
theorem dX6_count_65 : decode cX6_count 65 = .ok (.iaload, 1) := by decide +kernel
theorem dX6_count_66 : decode cX6_count 66 = .ok (.ireturn, 1) := by decide +kernel
theorem dX6_count_67 : decode cX6_count 67 = .ok (.aload_n 0, 1) := by decide +kernel
theorem dX6_count_68 : decode cX6_count 68 = .ok (.getfield 7, 3) := by decide +kernel
theorem dX6_count_71 : decode cX6_count 71 = .ok (.iconst 0, 1) := by decide +kernel
theorem dX6_count_72 : decode cX6_count 72 = .ok (.iaload, 1) := by decide +kernel
theorem dX6_count_73 : decode cX6_count 73 = .ok (.ireturn, 1) := by decide +kernel
theorem dX6_count_74 : decode cX6_count 74 = .ok (.aload_n 0, 1) := by decide +kernel
theorem dX6_count_75 : decode cX6_count 75 = .ok (.getfield 7, 3) := by decide +kernel
theorem dX6_count_78 : decode cX6_count 78 = .ok (.iconst 2, 1) := by decide +kernel
theorem dX6_count_79 : decode cX6_count 79 = .ok (.iaload, 1) := by decide +kernel
theorem dX6_count_80 : decode cX6_count 80 = .ok (.ireturn, 1) := by decide +kernel
theorem dX6_count_81 : decode cX6_count 81 = .ok (.aload_n 0, 1) := by decide +kernel
theorem dX6_count_82 : decode cX6_count 82 = .ok (.invokevirtual 169, 3) := by decide +kernel
theorem dX6_count_85 : decode cX6_count 85 = .ok (.ireturn, 1) := by decide +kernel
theorem dX6_count_86 : decode cX6_count 86 = .ok (.aload_n 0, 1) := by decide +kernel
theorem dX6_count_87 : decode cX6_count 87 = .ok (.getfield 7, 3) := by decide +kernel
theorem dX6_count_90 : decode cX6_count 90 = .ok (.iconst 4, 1) := by decide +kernel
theorem dX6_count_91 : decode cX6_count 91 = .ok (.iaload, 1) := by decide +kernel
theorem dX6_count_92 : decode cX6_count 92 = .ok (.ireturn, 1) := by decide +kernel
theorem dX6_count_93 : decode cX6_count 93 = .ok (.aload_n 0, 1) := by decide +kernel
theorem dX6_count_94 : decode cX6_count 94 = .ok (.getfield 7, 3) := by decide +kernel
theorem dX6_count_97 : decode cX6_count 97 = .ok (.iconst 5, 1) := by decide +kernel
theorem dX6_count_98 : decode cX6_count 98 = .ok (.iaload, 1) := by decide +kernel
theorem dX6_count_99 : decode cX6_count 99 = .ok (.ireturn, 1) := by decide +kernel
theorem dX6_count_100 : decode cX6_count 100 = .ok (.aload_n 0, 1) := by decide +kernel
theorem dX6_count_101 : decode cX6_count 101 = .ok (.getfield 205, 3) := by decide +kernel
theorem dX6_count_104 : decode cX6_count 104 = .ok (.ireturn, 1) := by decide +kernel
theorem dX6_count_105 : decode cX6_count 105 = .ok (.aload_n 0, 1) := by decide +kernel
theorem dX6_count_106 : decode cX6_count 106 = .ok (.getfield 7, 3) := by decide +kernel
theorem dX6_count_109 : decode cX6_count 109 = .ok (.iconst 3, 1) := by decide +kernel
theorem dX6_count_110 : decode cX6_count 110 = .ok (.iaload, 1) := by decide +kernel
theorem dX6_count_111 : decode cX6_count 111 = .ok (.ireturn, 1) := by decide +kernel
theorem dX6_count_112 : decode cX6_count 112 = .ok (.aload_n 0, 1) := by decide +kernel
theorem dX6_count_113 : decode cX6_count 113 = .ok (.iconst 1, 1) := by decide +kernel
theorem dX6_count_114 : decode cX6_count 114 = .ok (.invokevirtual 55, 3) := by decide +kernel
theorem dX6_count_117 : decode cX6_count 117 = .ok (.ireturn, 1) := by decide +kernel
set_option maxRecDepth 20000 in
theorem ggX6_told_X6_in : GoodIn wsX6_told wsX6_in := goodIn_r _ [5] (by decide +kernel) (by decide +kernel)
set_option maxRecDepth 20000 in
theorem gX6_told_X6_in : GoodIn wsX6_told (va_wsS RX6 51 yX6_in wsX6_in) := goodIn_app (goodIn_of _ (by decide +kernel)) ggX6_told_X6_in
set_option maxRecDepth 20000 in
theorem ggX6_told_X6_error : GoodIn wsX6_told wsX6_error := goodIn_r _ [9, 1, 10, 11, 12, 13, 14, 15, 16, 17, 18, 19, 20, 21, 22, 23, 24, 25, 26, 27, 28, 29, 30] (by decide +kernel) (by decide +kernel)
set_option maxRecDepth 20000 in
theorem gX6_told_X6_error : GoodIn wsX6_told (wsV RX6 55 RX6 yX6_error wsX6_error) := goodIn_app (goodIn_of _ (by decide +kernel)) ggX6_told_X6_error
theorem dX6_told_0 : decode cX6_told 0 = .ok (.iload_n 1, 1) := by decide +kernel
theorem dX6_told_1 : decode cX6_told 1 = .ok (.iconst 1, 1) := by decide +kernel
theorem dX6_told_2 : decode cX6_told 2 = .ok (.bipush 6, 2) := by decide +kernel
theorem dX6_told_4 : decode cX6_told 4 = .ok (.invokestatic 51, 3) := by decide +kernel
theorem dX6_told_7 : decode cX6_told 7 = .ok (.ifCond .eq 12, 3) := by decide +kernel
theorem dX6_told_10 : decode cX6_told 10 = .ok (.aload_n 0, 1) := by decide +kernel
theorem dX6_told_11 : decode cX6_told 11 = .ok (.getfield 19, 3) := by decide +kernel
theorem dX6_told_14 : decode cX6_told 14 = .ok (.iload_n 1, 1) := by decide +kernel
theorem dX6_told_15 : decode cX6_told 15 = .ok (.iaload, 1) := by decide +kernel
theorem dX6_told_16 : decode cX6_told 16 = .ok (.goto 8, 3) := by decide +kernel
theorem dX6_told_19 : decode cX6_told 19 = .ok (.aload_n 0, 1) := by decide +kernel
theorem dX6_told_20 : decode cX6_told 20 = .ok (.iconst 1, 1) := by decide +kernel
theorem dX6_told_21 : decode cX6_told 21 = .ok (.invokevirtual 55, 3) := by decide +kernel
theorem dX6_told_24 : decode cX6_told 24 = .ok (.ireturn, 1) := by decide +kernel
theorem dJ11_isValidCodePoint_9a6ad_0 : decode cJ11_isValidCodePoint_9a6ad 0 = .ok (.iload_n 0, 1) := by decide +kernel
theorem dJ11_isValidCodePoint_9a6ad_1 : decode cJ11_isValidCodePoint_9a6ad 1 = .ok (.bipush 16, 2) := by decide +kernel
theorem dJ11_isValidCodePoint_9a6ad_3 : decode cJ11_isValidCodePoint_9a6ad 3 = .ok (.iushr, 1) := by decide +kernel
theorem dJ11_isValidCodePoint_9a6ad_4 : decode cJ11_isValidCodePoint_9a6ad 4 = .ok (.istore_n 1, 1) := by decide +kernel
theorem dJ11_isValidCodePoint_9a6ad_5 : decode cJ11_isValidCodePoint_9a6ad 5 = .ok (.iload_n 1, 1) := by decide +kernel
theorem dJ11_isValidCodePoint_9a6ad_6 : decode cJ11_isValidCodePoint_9a6ad 6 = .ok (.bipush 17, 2) := by decide +kernel
theorem dJ11_isValidCodePoint_9a6ad_8 : decode cJ11_isValidCodePoint_9a6ad 8 = .ok (.if_icmp .ge 7, 3) := by decide +kernel
theorem dJ11_isValidCodePoint_9a6ad_11 : decode cJ11_isValidCodePoint_9a6ad 11 = .ok (.iconst 1, 1) := by decide +kernel
theorem dJ11_isValidCodePoint_9a6ad_12 : decode cJ11_isValidCodePoint_9a6ad 12 = .ok (.goto 4, 3) := by decide +kernel
theorem dJ11_isValidCodePoint_9a6ad_15 : decode cJ11_isValidCodePoint_9a6ad 15 = .ok (.iconst 0, 1) := by decide +kernel
theorem dJ11_isValidCodePoint_9a6ad_16 : decode cJ11_isValidCodePoint_9a6ad 16 = .ok (.ireturn, 1) := by decide +kernel
theorem dJ11_highSurrogate_5068e_0 : decode cJ11_highSurrogate_5068e 0 = .ok (.iload_n 0, 1) := by decide +kernel
theorem dJ11_highSurrogate_5068e_1 : decode cJ11_highSurrogate_5068e 1 = .ok (.bipush 10, 2) := by decide +kernel
theorem dJ11_highSurrogate_5068e_3 : decode cJ11_highSurrogate_5068e 3 = .ok (.iushr, 1) := by decide +kernel
theorem dJ11_highSurrogate_5068e_4 : decode cJ11_highSurrogate_5068e 4 = .ok (.ldc 110, 2) := by decide +kernel
theorem dJ11_highSurrogate_5068e_6 : decode cJ11_highSurrogate_5068e 6 = .ok (.iadd, 1) := by decide +kernel
theorem dJ11_highSurrogate_5068e_7 : decode cJ11_highSurrogate_5068e 7 = .ok (.i2c, 1) := by decide +kernel
theorem dJ11_highSurrogate_5068e_8 : decode cJ11_highSurrogate_5068e 8 = .ok (.ireturn, 1) := by decide +kernel
theorem dJ11_lowSurrogate_5068e_0 : decode cJ11_lowSurrogate_5068e 0 = .ok (.iload_n 0, 1) := by decide +kernel
theorem dJ11_lowSurrogate_5068e_1 : decode cJ11_lowSurrogate_5068e 1 = .ok (.sipush 1023, 3) := by decide +kernel
theorem dJ11_lowSurrogate_5068e_4 : decode cJ11_lowSurrogate_5068e 4 = .ok (.iand, 1) := by decide +kernel
theorem dJ11_lowSurrogate_5068e_5 : decode cJ11_lowSurrogate_5068e 5 = .ok (.ldc 76, 2) := by decide +kernel
theorem dJ11_lowSurrogate_5068e_7 : decode cJ11_lowSurrogate_5068e 7 = .ok (.iadd, 1) := by decide +kernel
theorem dJ11_lowSurrogate_5068e_8 : decode cJ11_lowSurrogate_5068e 8 = .ok (.i2c, 1) := by decide +kernel
theorem dJ11_lowSurrogate_5068e_9 : decode cJ11_lowSurrogate_5068e 9 = .ok (.ireturn, 1) := by decide +kernel
theorem dJ6_compare_7cf53_0 : decode cJ6_compare_7cf53 0 = .ok (.iload_n 0, 1) := by decide +kernel
theorem dJ6_compare_7cf53_1 : decode cJ6_compare_7cf53 1 = .ok (.iload_n 1, 1) := by decide +kernel
theorem dJ6_compare_7cf53_2 : decode cJ6_compare_7cf53 2 = .ok (.if_icmp .ge 7, 3) := by decide +kernel
theorem dJ6_compare_7cf53_5 : decode cJ6_compare_7cf53 5 = .ok (.iconst (-1), 1) := by decide +kernel
theorem dJ6_compare_7cf53_6 : decode cJ6_compare_7cf53 6 = .ok (.goto 13, 3) := by decide +kernel
theorem dJ6_compare_7cf53_9 : decode cJ6_compare_7cf53 9 = .ok (.iload_n 0, 1) := by decide +kernel
theorem dJ6_compare_7cf53_10 : decode cJ6_compare_7cf53 10 = .ok (.iload_n 1, 1) := by decide +kernel
theorem dJ6_compare_7cf53_11 : decode cJ6_compare_7cf53 11 = .ok (.if_icmp .ne 7, 3) := by decide +kernel
theorem dJ6_compare_7cf53_14 : decode cJ6_compare_7cf53 14 = .ok (.iconst 0, 1) := by decide +kernel
theorem dJ6_compare_7cf53_15 : decode cJ6_compare_7cf53 15 = .ok (.goto 4, 3) := by decide +kernel
theorem dJ6_compare_7cf53_18 : decode cJ6_compare_7cf53 18 = .ok (.iconst 1, 1) := by decide +kernel
theorem dJ6_compare_7cf53_19 : decode cJ6_compare_7cf53 19 = .ok (.ireturn, 1) := by decide +kernel
theorem dJ9_floorMod_7cf53_0 : decode cJ9_floorMod_7cf53 0 = .ok (.iload_n 0, 1) := by decide +kernel
theorem dJ9_floorMod_7cf53_1 : decode cJ9_floorMod_7cf53 1 = .ok (.iload_n 1, 1) := by decide +kernel
theorem dJ9_floorMod_7cf53_2 : decode cJ9_floorMod_7cf53 2 = .ok (.irem, 1) := by decide +kernel
theorem dJ9_floorMod_7cf53_3 : decode cJ9_floorMod_7cf53 3 = .ok (.istore_n 2, 1) := by decide +kernel
theorem dJ9_floorMod_7cf53_4 : decode cJ9_floorMod_7cf53 4 = .ok (.iload_n 0, 1) := by decide +kernel
theorem dJ9_floorMod_7cf53_5 : decode cJ9_floorMod_7cf53 5 = .ok (.iload_n 1, 1) := by decide +kernel
theorem dJ9_floorMod_7cf53_6 : decode cJ9_floorMod_7cf53 6 = .ok (.ixor, 1) := by decide +kernel
theorem dJ9_floorMod_7cf53_7 : decode cJ9_floorMod_7cf53 7 = .ok (.ifCond .ge 11, 3) := by decide +kernel
theorem dJ9_floorMod_7cf53_10 : decode cJ9_floorMod_7cf53 10 = .ok (.iload_n 2, 1) := by decide +kernel
theorem dJ9_floorMod_7cf53_11 : decode cJ9_floorMod_7cf53 11 = .ok (.ifCond .eq 7, 3) := by decide +kernel
theorem dJ9_floorMod_7cf53_14 : decode cJ9_floorMod_7cf53 14 = .ok (.iload_n 2, 1) := by decide +kernel
theorem dJ9_floorMod_7cf53_15 : decode cJ9_floorMod_7cf53 15 = .ok (.iload_n 1, 1) := by decide +kernel
theorem dJ9_floorMod_7cf53_16 : decode cJ9_floorMod_7cf53 16 = .ok (.iadd, 1) := by decide +kernel
theorem dJ9_floorMod_7cf53_17 : decode cJ9_floorMod_7cf53 17 = .ok (.ireturn, 1) := by decide +kernel
theorem dJ9_floorMod_7cf53_18 : decode cJ9_floorMod_7cf53 18 = .ok (.iload_n 2, 1) := by decide +kernel
theorem dJ9_floorMod_7cf53_19 : decode cJ9_floorMod_7cf53 19 = .ok (.ireturn, 1) := by decide +kernel
theorem dJ9_max_7cf53_0 : decode cJ9_max_7cf53 0 = .ok (.iload_n 0, 1) := by decide +kernel
theorem dJ9_max_7cf53_1 : decode cJ9_max_7cf53 1 = .ok (.iload_n 1, 1) := by decide +kernel
theorem dJ9_max_7cf53_2 : decode cJ9_max_7cf53 2 = .ok (.if_icmp .lt 7, 3) := by decide +kernel
theorem dJ9_max_7cf53_5 : decode cJ9_max_7cf53 5 = .ok (.iload_n 0, 1) := by decide +kernel
theorem dJ9_max_7cf53_6 : decode cJ9_max_7cf53 6 = .ok (.goto 4, 3) := by decide +kernel
theorem dJ9_max_7cf53_9 : decode cJ9_max_7cf53 9 = .ok (.iload_n 1, 1) := by decide +kernel
theorem dJ9_max_7cf53_10 : decode cJ9_max_7cf53 10 = .ok (.ireturn, 1) := by decide +kernel
theorem dJ9_min_7cf53_0 : decode cJ9_min_7cf53 0 = .ok (.iload_n 0, 1) := by decide +kernel
theorem dJ9_min_7cf53_1 : decode cJ9_min_7cf53 1 = .ok (.iload_n 1, 1) := by decide +kernel
theorem dJ9_min_7cf53_2 : decode cJ9_min_7cf53 2 = .ok (.if_icmp .gt 7, 3) := by decide +kernel
theorem dJ9_min_7cf53_5 : decode cJ9_min_7cf53 5 = .ok (.iload_n 0, 1) := by decide +kernel
theorem dJ9_min_7cf53_6 : decode cJ9_min_7cf53 6 = .ok (.goto 4, 3) := by decide +kernel
theorem dJ9_min_7cf53_9 : decode cJ9_min_7cf53 9 = .ok (.iload_n 1, 1) := by decide +kernel
theorem dJ9_min_7cf53_10 : decode cJ9_min_7cf53 10 = .ok (.ireturn, 1) := by decide +kernel
set_option maxRecDepth 20000 in
theorem ggJ0_length_8abf5_J0_coder_7d493 : GoodIn wsJ0_length_8abf5 wsJ0_coder_7d493 := goodIn_r _ [6, 7, 8] (by decide +kernel) (by decide +kernel)
set_option maxRecDepth 20000 in
theorem gJ0_length_8abf5_J0_coder_7d493 : GoodIn wsJ0_length_8abf5 (wsV RJ0 335 RJ0 yJ0_coder_7d493 wsJ0_coder_7d493) := goodIn_app (goodIn_of _ (by decide +kernel)) ggJ0_length_8abf5_J0_coder_7d493
theorem dJ0_length_8abf5_0 : decode cJ0_length_8abf5 0 = .ok (.aload_n 0, 1) := by decide +kernel
theorem dJ0_length_8abf5_1 : decode cJ0_length_8abf5 1 = .ok (.getfield 9, 3) := by decide +kernel
theorem dJ0_length_8abf5_4 : decode cJ0_length_8abf5 4 = .ok (.arraylength, 1) := by decide +kernel
theorem dJ0_length_8abf5_5 : decode cJ0_length_8abf5 5 = .ok (.aload_n 0, 1) := by decide +kernel
theorem dJ0_length_8abf5_6 : decode cJ0_length_8abf5 6 = .ok (.invokevirtual 335, 3) := by decide +kernel
theorem dJ0_length_8abf5_9 : decode cJ0_length_8abf5 9 = .ok (.ishr, 1) := by decide +kernel
theorem dJ0_length_8abf5_10 : decode cJ0_length_8abf5 10 = .ok (.ireturn, 1) := by decide +kernel
set_option maxRecDepth 20000 in
theorem ggJ0_indexOf_0f7a4_J0_indexOf_7cf53 : GoodIn wsJ0_indexOf_0f7a4 wsJ0_indexOf_7cf53 := goodIn_r _ [5, 6, 7, 8, 9, 4, 10, 11, 12, 13, 14, 15, 16, 17, 18, 19, 20, 21, 22, 23, 24, 25, 26, 27, 28, 29, 30, 31, 32, 33, 34, 35, 36, 37, 38, 39, 40, 41, 42, 43, 44, 45, 46, 47, 48, 49, 50, 51, 52, 53, 54, 55, 56, 57, 58, 59, 60, 61, 62, 63, 64, 65, 66, 67, 68, 69, 70, 71, 72, 73, 74, 75, 76, 77, 78, 79, 80, 81, 82, 83, 84, 85] (by decide +kernel) (by decide +kernel)
set_option maxRecDepth 20000 in
theorem gJ0_indexOf_0f7a4_J0_indexOf_7cf53 : GoodIn wsJ0_indexOf_0f7a4 (wsV RJ0 633 RJ0 yJ0_indexOf_7cf53 wsJ0_indexOf_7cf53) := goodIn_app (goodIn_of _ (by decide +kernel)) ggJ0_indexOf_0f7a4_J0_indexOf_7cf53
theorem dJ0_indexOf_0f7a4_0 : decode cJ0_indexOf_0f7a4 0 = .ok (.aload_n 0, 1) := by decide +kernel
theorem dJ0_indexOf_0f7a4_1 : decode cJ0_indexOf_0f7a4 1 = .ok (.iload_n 1, 1) := by decide +kernel
theorem dJ0_indexOf_0f7a4_2 : decode cJ0_indexOf_0f7a4 2 = .ok (.iconst 0, 1) := by decide +kernel
theorem dJ0_indexOf_0f7a4_3 : decode cJ0_indexOf_0f7a4 3 = .ok (.invokevirtual 633, 3) := by decide +kernel
theorem dJ0_indexOf_0f7a4_6 : decode cJ0_indexOf_0f7a4 6 = .ok (.ireturn, 1) := by decide +kernel
set_option maxRecDepth 20000 in
theorem ggJ0_indexOf_7cf53_J0_isLatin1_aae02 : GoodIn wsJ0_indexOf_7cf53 wsJ0_isLatin1_aae02 := goodIn_r _ [6, 7, 8] (by decide +kernel) (by decide +kernel)
set_option maxRecDepth 20000 in
theorem gJ0_indexOf_7cf53_J0_isLatin1_aae02 : GoodIn wsJ0_indexOf_7cf53 (wsV RJ0 492 RJ0 yJ0_isLatin1_aae02 wsJ0_isLatin1_aae02) := goodIn_app (goodIn_of _ (by decide +kernel)) ggJ0_indexOf_7cf53_J0_isLatin1_aae02
set_option maxRecDepth 20000 in
theorem ggJ0_indexOf_7cf53_J0_length_8abf5 : GoodIn wsJ0_indexOf_7cf53 wsJ0_length_8abf5 := goodIn_r _ [12, 1, 13, 14, 15, 5, 16, 7, 8] (by decide +kernel) (by decide +kernel)
set_option maxRecDepth 20000 in
theorem gJ0_indexOf_7cf53_J0_length_8abf5 : GoodIn wsJ0_indexOf_7cf53 (wsV RJ0 505 RJ0 yJ0_length_8abf5 wsJ0_length_8abf5) := goodIn_app (goodIn_of _ (by decide +kernel)) ggJ0_indexOf_7cf53_J0_length_8abf5
set_option maxRecDepth 20000 in
theorem ggJ0_indexOf_7cf53_J1_indexOf_4cfef : GoodIn wsJ0_indexOf_7cf53 wsJ1_indexOf_4cfef := goodIn_r _ [20, 21, 22, 23, 24, 25, 26, 27, 28, 29, 19, 30, 31, 32, 33] (by decide +kernel) (by decide +kernel)
set_option maxRecDepth 20000 in
theorem gJ0_indexOf_7cf53_J1_indexOf_4cfef : GoodIn wsJ0_indexOf_7cf53 (va_wsS RJ0 637 yJ1_indexOf_4cfef wsJ1_indexOf_4cfef) := goodIn_app (goodIn_of _ (by decide +kernel)) ggJ0_indexOf_7cf53_J1_indexOf_4cfef
set_option maxRecDepth 20000 in
theorem ggJ0_indexOf_7cf53_J2_indexOf_4cfef : GoodIn wsJ0_indexOf_7cf53 wsJ2_indexOf_4cfef := goodIn_r _ [37, 38, 22, 23, 24, 39, 26, 27, 40, 41, 42, 36, 43, 44, 45, 46, 47, 48, 49, 50, 51, 5, 52, 53, 54, 55, 56, 57, 58, 59, 60, 61, 62, 63, 64, 65, 66, 67, 68, 69, 70, 71, 72, 73, 74, 75, 76, 77, 78, 79, 80, 81] (by decide +kernel) (by decide +kernel)
set_option maxRecDepth 20000 in
theorem gJ0_indexOf_7cf53_J2_indexOf_4cfef : GoodIn wsJ0_indexOf_7cf53 (va_wsS RJ0 640 yJ2_indexOf_4cfef wsJ2_indexOf_4cfef) := goodIn_app (goodIn_of _ (by decide +kernel)) ggJ0_indexOf_7cf53_J2_indexOf_4cfef
theorem dJ0_indexOf_7cf53_0 : decode cJ0_indexOf_7cf53 0 = .ok (.aload_n 0, 1) := by decide +kernel
theorem dJ0_indexOf_7cf53_1 : decode cJ0_indexOf_7cf53 1 = .ok (.invokevirtual 492, 3) := by decide +kernel
theorem dJ0_indexOf_7cf53_4 : decode cJ0_indexOf_7cf53 4 = .ok (.ifCond .eq 19, 3) := by decide +kernel
theorem dJ0_indexOf_7cf53_7 : decode cJ0_indexOf_7cf53 7 = .ok (.aload_n 0, 1) := by decide +kernel
theorem dJ0_indexOf_7cf53_8 : decode cJ0_indexOf_7cf53 8 = .ok (.getfield 9, 3) := by decide +kernel
theorem dJ0_indexOf_7cf53_11 : decode cJ0_indexOf_7cf53 11 = .ok (.iload_n 1, 1) := by decide +kernel
theorem dJ0_indexOf_7cf53_12 : decode cJ0_indexOf_7cf53 12 = .ok (.iload_n 2, 1) := by decide +kernel
theorem dJ0_indexOf_7cf53_13 : decode cJ0_indexOf_7cf53 13 = .ok (.aload_n 0, 1) := by decide +kernel
theorem dJ0_indexOf_7cf53_14 : decode cJ0_indexOf_7cf53 14 = .ok (.invokevirtual 505, 3) := by decide +kernel
theorem dJ0_indexOf_7cf53_17 : decode cJ0_indexOf_7cf53 17 = .ok (.invokestatic 637, 3) := by decide +kernel
theorem dJ0_indexOf_7cf53_20 : decode cJ0_indexOf_7cf53 20 = .ok (.goto 16, 3) := by decide +kernel
theorem dJ0_indexOf_7cf53_23 : decode cJ0_indexOf_7cf53 23 = .ok (.aload_n 0, 1) := by decide +kernel
theorem dJ0_indexOf_7cf53_24 : decode cJ0_indexOf_7cf53 24 = .ok (.getfield 9, 3) := by decide +kernel
theorem dJ0_indexOf_7cf53_27 : decode cJ0_indexOf_7cf53 27 = .ok (.iload_n 1, 1) := by decide +kernel
theorem dJ0_indexOf_7cf53_28 : decode cJ0_indexOf_7cf53 28 = .ok (.iload_n 2, 1) := by decide +kernel
theorem dJ0_indexOf_7cf53_29 : decode cJ0_indexOf_7cf53 29 = .ok (.aload_n 0, 1) := by decide +kernel
theorem dJ0_indexOf_7cf53_30 : decode cJ0_indexOf_7cf53 30 = .ok (.invokevirtual 505, 3) := by decide +kernel
theorem dJ0_indexOf_7cf53_33 : decode cJ0_indexOf_7cf53 33 = .ok (.invokestatic 640, 3) := by decide +kernel
theorem dJ0_indexOf_7cf53_36 : decode cJ0_indexOf_7cf53 36 = .ok (.ireturn, 1) := by decide +kernel
theorem dJ0_coder_7d493_0 : decode cJ0_coder_7d493 0 = .ok (.getstatic 38, 3) := by decide +kernel
theorem dJ0_coder_7d493_3 : decode cJ0_coder_7d493 3 = .ok (.ifCond .eq 10, 3) := by decide +kernel
theorem dJ0_coder_7d493_6 : decode cJ0_coder_7d493 6 = .ok (.aload_n 0, 1) := by decide +kernel
theorem dJ0_coder_7d493_7 : decode cJ0_coder_7d493 7 = .ok (.getfield 15, 3) := by decide +kernel
theorem dJ0_coder_7d493_10 : decode cJ0_coder_7d493 10 = .ok (.goto 4, 3) := by decide +kernel
theorem dJ0_coder_7d493_13 : decode cJ0_coder_7d493 13 = .ok (.iconst 1, 1) := by decide +kernel
theorem dJ0_coder_7d493_14 : decode cJ0_coder_7d493 14 = .ok (.ireturn, 1) := by decide +kernel
theorem dJ0_isLatin1_aae02_0 : decode cJ0_isLatin1_aae02 0 = .ok (.getstatic 38, 3) := by decide +kernel
theorem dJ0_isLatin1_aae02_3 : decode cJ0_isLatin1_aae02 3 = .ok (.ifCond .eq 14, 3) := by decide +kernel
theorem dJ0_isLatin1_aae02_6 : decode cJ0_isLatin1_aae02 6 = .ok (.aload_n 0, 1) := by decide +kernel
theorem dJ0_isLatin1_aae02_7 : decode cJ0_isLatin1_aae02 7 = .ok (.getfield 15, 3) := by decide +kernel
theorem dJ0_isLatin1_aae02_10 : decode cJ0_isLatin1_aae02 10 = .ok (.ifCond .ne 7, 3) := by decide +kernel
theorem dJ0_isLatin1_aae02_13 : decode cJ0_isLatin1_aae02 13 = .ok (.iconst 1, 1) := by decide +kernel
theorem dJ0_isLatin1_aae02_14 : decode cJ0_isLatin1_aae02 14 = .ok (.goto 4, 3) := by decide +kernel
theorem dJ0_isLatin1_aae02_17 : decode cJ0_isLatin1_aae02 17 = .ok (.iconst 0, 1) := by decide +kernel
theorem dJ0_isLatin1_aae02_18 : decode cJ0_isLatin1_aae02 18 = .ok (.ireturn, 1) := by decide +kernel
set_option maxRecDepth 20000 in
theorem ggJ0_checkBoundsBeginEnd_23922_J3_checkFromToIndex_8c36e : GoodIn wsJ0_checkBoundsBeginEnd_23922 wsJ3_checkFromToIndex_8c36e := goodIn_r _ [5] (by decide +kernel) (by decide +kernel)
set_option maxRecDepth 20000 in
theorem gJ0_checkBoundsBeginEnd_23922_J3_checkFromToIndex_8c36e : GoodIn wsJ0_checkBoundsBeginEnd_23922 (va_wsS RJ0 1062 yJ3_checkFromToIndex_8c36e wsJ3_checkFromToIndex_8c36e) := goodIn_app (goodIn_of _ (by decide +kernel)) ggJ0_checkBoundsBeginEnd_23922_J3_checkFromToIndex_8c36e
theorem dJ0_checkBoundsBeginEnd_23922_0 : decode cJ0_checkBoundsBeginEnd_23922 0 = .ok (.iload_n 0, 1) := by decide +kernel
theorem dJ0_checkBoundsBeginEnd_23922_1 : decode cJ0_checkBoundsBeginEnd_23922 1 = .ok (.iload_n 1, 1) := by decide +kernel
theorem dJ0_checkBoundsBeginEnd_23922_2 : decode cJ0_checkBoundsBeginEnd_23922 2 = .ok (.iload_n 2, 1) := by decide +kernel
theorem dJ0_checkBoundsBeginEnd_23922_3 : decode cJ0_checkBoundsBeginEnd_23922 3 = .ok (.getstatic 1053, 3) := by decide +kernel
theorem dJ0_checkBoundsBeginEnd_23922_6 : decode cJ0_checkBoundsBeginEnd_23922 6 = .ok (.invokestatic 1062, 3) := by decide +kernel
theorem dJ0_checkBoundsBeginEnd_23922_9 : decode cJ0_checkBoundsBeginEnd_23922 9 = .ok (.pop, 1) := by decide +kernel
theorem dJ0_checkBoundsBeginEnd_23922_10 : decode cJ0_checkBoundsBeginEnd_23922 10 = .ok (.return_, 1) := by decide +kernel
theorem dJ1_canEncode_9a6ad_0 : decode cJ1_canEncode_9a6ad 0 = .ok (.iload_n 0, 1) := by decide +kernel
theorem dJ1_canEncode_9a6ad_1 : decode cJ1_canEncode_9a6ad 1 = .ok (.ifCond .lt 14, 3) := by decide +kernel
theorem dJ1_canEncode_9a6ad_4 : decode cJ1_canEncode_9a6ad 4 = .ok (.iload_n 0, 1) := by decide +kernel
theorem dJ1_canEncode_9a6ad_5 : decode cJ1_canEncode_9a6ad 5 = .ok (.sipush 255, 3) := by decide +kernel
theorem dJ1_canEncode_9a6ad_8 : decode cJ1_canEncode_9a6ad 8 = .ok (.if_icmp .gt 7, 3) := by decide +kernel
theorem dJ1_canEncode_9a6ad_11 : decode cJ1_canEncode_9a6ad 11 = .ok (.iconst 1, 1) := by decide +kernel
theorem dJ1_canEncode_9a6ad_12 : decode cJ1_canEncode_9a6ad 12 = .ok (.goto 4, 3) := by decide +kernel
theorem dJ1_canEncode_9a6ad_15 : decode cJ1_canEncode_9a6ad 15 = .ok (.iconst 0, 1) := by decide +kernel
theorem dJ1_canEncode_9a6ad_16 : decode cJ1_canEncode_9a6ad 16 = .ok (.ireturn, 1) := by decide +kernel
set_option maxRecDepth 20000 in
theorem ggJ1_indexOf_4cfef_J1_canEncode_9a6ad : GoodIn wsJ1_indexOf_4cfef wsJ1_canEncode_9a6ad := goodIn_r _ [11] (by decide +kernel) (by decide +kernel)
set_option maxRecDepth 20000 in
theorem gJ1_indexOf_4cfef_J1_canEncode_9a6ad : GoodIn wsJ1_indexOf_4cfef (va_wsS RJ1 88 yJ1_canEncode_9a6ad wsJ1_canEncode_9a6ad) := goodIn_app (goodIn_of _ (by decide +kernel)) ggJ1_indexOf_4cfef_J1_canEncode_9a6ad
set_option maxRecDepth 20000 in
theorem ggJ1_indexOf_4cfef_J1_indexOfChar_4cfef : GoodIn wsJ1_indexOf_4cfef wsJ1_indexOfChar_4cfef := goodIn_r _ [14] (by decide +kernel) (by decide +kernel)
set_option maxRecDepth 20000 in
theorem gJ1_indexOf_4cfef_J1_indexOfChar_4cfef : GoodIn wsJ1_indexOf_4cfef (va_wsS RJ1 95 yJ1_indexOfChar_4cfef wsJ1_indexOfChar_4cfef) := goodIn_app (goodIn_of _ (by decide +kernel)) ggJ1_indexOf_4cfef_J1_indexOfChar_4cfef
theorem dJ1_indexOf_4cfef_0 : decode cJ1_indexOf_4cfef 0 = .ok (.iload_n 1, 1) := by decide +kernel
theorem dJ1_indexOf_4cfef_1 : decode cJ1_indexOf_4cfef 1 = .ok (.invokestatic 88, 3) := by decide +kernel
theorem dJ1_indexOf_4cfef_4 : decode cJ1_indexOf_4cfef 4 = .ok (.ifCond .ne 5, 3) := by decide +kernel
theorem dJ1_indexOf_4cfef_7 : decode cJ1_indexOf_4cfef 7 = .ok (.iconst (-1), 1) := by decide +kernel
theorem dJ1_indexOf_4cfef_8 : decode cJ1_indexOf_4cfef 8 = .ok (.ireturn, 1) := by decide +kernel
theorem dJ1_indexOf_4cfef_9 : decode cJ1_indexOf_4cfef 9 = .ok (.iload_n 2, 1) := by decide +kernel
theorem dJ1_indexOf_4cfef_10 : decode cJ1_indexOf_4cfef 10 = .ok (.iconst 0, 1) := by decide +kernel
theorem dJ1_indexOf_4cfef_11 : decode cJ1_indexOf_4cfef 11 = .ok (.invokestatic 92, 3) := by decide +kernel
theorem dJ1_indexOf_4cfef_14 : decode cJ1_indexOf_4cfef 14 = .ok (.istore_n 2, 1) := by decide +kernel
theorem dJ1_indexOf_4cfef_15 : decode cJ1_indexOf_4cfef 15 = .ok (.iload_n 3, 1) := by decide +kernel
theorem dJ1_indexOf_4cfef_16 : decode cJ1_indexOf_4cfef 16 = .ok (.aload_n 0, 1) := by decide +kernel
theorem dJ1_indexOf_4cfef_17 : decode cJ1_indexOf_4cfef 17 = .ok (.arraylength, 1) := by decide +kernel
theorem dJ1_indexOf_4cfef_18 : decode cJ1_indexOf_4cfef 18 = .ok (.invokestatic 38, 3) := by decide +kernel
theorem dJ1_indexOf_4cfef_21 : decode cJ1_indexOf_4cfef 21 = .ok (.istore_n 3, 1) := by decide +kernel
theorem dJ1_indexOf_4cfef_22 : decode cJ1_indexOf_4cfef 22 = .ok (.iload_n 2, 1) := by decide +kernel
theorem dJ1_indexOf_4cfef_23 : decode cJ1_indexOf_4cfef 23 = .ok (.iload_n 3, 1) := by decide +kernel
theorem dJ1_indexOf_4cfef_24 : decode cJ1_indexOf_4cfef 24 = .ok (.if_icmp .lt 5, 3) := by decide +kernel
theorem dJ1_indexOf_4cfef_27 : decode cJ1_indexOf_4cfef 27 = .ok (.iconst (-1), 1) := by decide +kernel
theorem dJ1_indexOf_4cfef_28 : decode cJ1_indexOf_4cfef 28 = .ok (.ireturn, 1) := by decide +kernel
theorem dJ1_indexOf_4cfef_29 : decode cJ1_indexOf_4cfef 29 = .ok (.aload_n 0, 1) := by decide +kernel
theorem dJ1_indexOf_4cfef_30 : decode cJ1_indexOf_4cfef 30 = .ok (.iload_n 1, 1) := by decide +kernel
theorem dJ1_indexOf_4cfef_31 : decode cJ1_indexOf_4cfef 31 = .ok (.iload_n 2, 1) := by decide +kernel
theorem dJ1_indexOf_4cfef_32 : decode cJ1_indexOf_4cfef 32 = .ok (.iload_n 3, 1) := by decide +kernel
theorem dJ1_indexOf_4cfef_33 : decode cJ1_indexOf_4cfef 33 = .ok (.invokestatic 95, 3) := by decide +kernel
theorem dJ1_indexOf_4cfef_36 : decode cJ1_indexOf_4cfef 36 = .ok (.ireturn, 1) := by decide +kernel
theorem dJ1_indexOfChar_4cfef_0 : decode cJ1_indexOfChar_4cfef 0 = .ok (.iload_n 1, 1) := by decide +kernel
theorem dJ1_indexOfChar_4cfef_1 : decode cJ1_indexOfChar_4cfef 1 = .ok (.i2b, 1) := by decide +kernel
theorem dJ1_indexOfChar_4cfef_2 : decode cJ1_indexOfChar_4cfef 2 = .ok (.istore 4, 2) := by decide +kernel
theorem dJ1_indexOfChar_4cfef_4 : decode cJ1_indexOfChar_4cfef 4 = .ok (.iload_n 2, 1) := by decide +kernel
theorem dJ1_indexOfChar_4cfef_5 : decode cJ1_indexOfChar_4cfef 5 = .ok (.istore 5, 2) := by decide +kernel
theorem dJ1_indexOfChar_4cfef_7 : decode cJ1_indexOfChar_4cfef 7 = .ok (.iload 5, 2) := by decide +kernel
theorem dJ1_indexOfChar_4cfef_9 : decode cJ1_indexOfChar_4cfef 9 = .ok (.iload_n 3, 1) := by decide +kernel
theorem dJ1_indexOfChar_4cfef_10 : decode cJ1_indexOfChar_4cfef 10 = .ok (.if_icmp .ge 21, 3) := by decide +kernel
theorem dJ1_indexOfChar_4cfef_13 : decode cJ1_indexOfChar_4cfef 13 = .ok (.aload_n 0, 1) := by decide +kernel
theorem dJ1_indexOfChar_4cfef_14 : decode cJ1_indexOfChar_4cfef 14 = .ok (.iload 5, 2) := by decide +kernel
theorem dJ1_indexOfChar_4cfef_16 : decode cJ1_indexOfChar_4cfef 16 = .ok (.baload, 1) := by decide +kernel
theorem dJ1_indexOfChar_4cfef_17 : decode cJ1_indexOfChar_4cfef 17 = .ok (.iload 4, 2) := by decide +kernel
theorem dJ1_indexOfChar_4cfef_19 : decode cJ1_indexOfChar_4cfef 19 = .ok (.if_icmp .ne 6, 3) := by decide +kernel
theorem dJ1_indexOfChar_4cfef_22 : decode cJ1_indexOfChar_4cfef 22 = .ok (.iload 5, 2) := by decide +kernel
theorem dJ1_indexOfChar_4cfef_24 : decode cJ1_indexOfChar_4cfef 24 = .ok (.ireturn, 1) := by decide +kernel
theorem dJ1_indexOfChar_4cfef_25 : decode cJ1_indexOfChar_4cfef 25 = .ok (.iinc 5 1, 3) := by decide +kernel
theorem dJ1_indexOfChar_4cfef_28 : decode cJ1_indexOfChar_4cfef 28 = .ok (.goto (-21), 3) := by decide +kernel
theorem dJ1_indexOfChar_4cfef_31 : decode cJ1_indexOfChar_4cfef 31 = .ok (.iconst (-1), 1) := by decide +kernel
theorem dJ1_indexOfChar_4cfef_32 : decode cJ1_indexOfChar_4cfef 32 = .ok (.ireturn, 1) := by decide +kernel
set_option maxRecDepth 20000 in
theorem ggJ2_getChar_3b067_J2_length_9d52b : GoodIn wsJ2_getChar_3b067 wsJ2_length_9d52b := goodIn_r _ [7] (by decide +kernel) (by decide +kernel)
set_option maxRecDepth 20000 in
theorem gJ2_getChar_3b067_J2_length_9d52b : GoodIn wsJ2_getChar_3b067 (va_wsS RJ2 48 yJ2_length_9d52b wsJ2_length_9d52b) := goodIn_app (goodIn_of _ (by decide +kernel)) ggJ2_getChar_3b067_J2_length_9d52b
theorem dJ2_getChar_3b067_0 : decode cJ2_getChar_3b067 0 = .ok (.getstatic 44, 3) := by decide +kernel
theorem dJ2_getChar_3b067_3 : decode cJ2_getChar_3b067 3 = .ok (.ifCond .ne 25, 3) := by decide +kernel
theorem dJ2_getChar_3b067_6 : decode cJ2_getChar_3b067 6 = .ok (.iload_n 1, 1) := by decide +kernel
theorem dJ2_getChar_3b067_7 : decode cJ2_getChar_3b067 7 = .ok (.ifCond .lt 11, 3) := by decide +kernel
theorem dJ2_getChar_3b067_10 : decode cJ2_getChar_3b067 10 = .ok (.iload_n 1, 1) := by decide +kernel
theorem dJ2_getChar_3b067_11 : decode cJ2_getChar_3b067 11 = .ok (.aload_n 0, 1) := by decide +kernel
theorem dJ2_getChar_3b067_12 : decode cJ2_getChar_3b067 12 = .ok (.invokestatic 48, 3) := by decide +kernel
theorem dJ2_getChar_3b067_15 : decode cJ2_getChar_3b067 15 = .ok (.if_icmp .lt 13, 3) := by decide +kernel
theorem dJ2_getChar_3b067_18 : decode cJ2_getChar_3b067 18 = .ok (.new 52, 3) := by decide +kernel
theorem dJ2_getChar_3b067_21 : decode cJ2_getChar_3b067 21 = .ok (.dup, 1) := by decide +kernel
theorem dJ2_getChar_3b067_22 : decode cJ2_getChar_3b067 22 = .ok (.ldc 54, 2) := by decide +kernel
theorem dJ2_getChar_3b067_24 : decode cJ2_getChar_3b067 24 = .ok (.invokespecial 56, 3) := by decide +kernel
theorem dJ2_getChar_3b067_27 : decode cJ2_getChar_3b067 27 = .ok (.athrow, 1) := by decide +kernel
theorem dJ2_getChar_3b067_28 : decode cJ2_getChar_3b067 28 = .ok (.iload_n 1, 1) := by decide +kernel
theorem dJ2_getChar_3b067_29 : decode cJ2_getChar_3b067 29 = .ok (.iconst 1, 1) := by decide +kernel
theorem dJ2_getChar_3b067_30 : decode cJ2_getChar_3b067 30 = .ok (.ishl, 1) := by decide +kernel
theorem dJ2_getChar_3b067_31 : decode cJ2_getChar_3b067 31 = .ok (.istore_n 1, 1) := by decide +kernel
theorem dJ2_getChar_3b067_32 : decode cJ2_getChar_3b067 32 = .ok (.aload_n 0, 1) := by decide +kernel
theorem dJ2_getChar_3b067_33 : decode cJ2_getChar_3b067 33 = .ok (.iload_n 1, 1) := by decide +kernel
theorem dJ2_getChar_3b067_34 : decode cJ2_getChar_3b067 34 = .ok (.iinc 1 1, 3) := by decide +kernel
theorem dJ2_getChar_3b067_37 : decode cJ2_getChar_3b067 37 = .ok (.baload, 1) := by decide +kernel
theorem dJ2_getChar_3b067_38 : decode cJ2_getChar_3b067 38 = .ok (.sipush 255, 3) := by decide +kernel
theorem dJ2_getChar_3b067_41 : decode cJ2_getChar_3b067 41 = .ok (.iand, 1) := by decide +kernel
theorem dJ2_getChar_3b067_42 : decode cJ2_getChar_3b067 42 = .ok (.getstatic 59, 3) := by decide +kernel
theorem dJ2_getChar_3b067_45 : decode cJ2_getChar_3b067 45 = .ok (.ishl, 1) := by decide +kernel
theorem dJ2_getChar_3b067_46 : decode cJ2_getChar_3b067 46 = .ok (.aload_n 0, 1) := by decide +kernel
theorem dJ2_getChar_3b067_47 : decode cJ2_getChar_3b067 47 = .ok (.iload_n 1, 1) := by decide +kernel
theorem dJ2_getChar_3b067_48 : decode cJ2_getChar_3b067 48 = .ok (.baload, 1) := by decide +kernel
theorem dJ2_getChar_3b067_49 : decode cJ2_getChar_3b067 49 = .ok (.sipush 255, 3) := by decide +kernel
theorem dJ2_getChar_3b067_52 : decode cJ2_getChar_3b067 52 = .ok (.iand, 1) := by decide +kernel
theorem dJ2_getChar_3b067_53 : decode cJ2_getChar_3b067 53 = .ok (.getstatic 63, 3) := by decide +kernel
theorem dJ2_getChar_3b067_56 : decode cJ2_getChar_3b067 56 = .ok (.ishl, 1) := by decide +kernel
theorem dJ2_getChar_3b067_57 : decode cJ2_getChar_3b067 57 = .ok (.ior, 1) := by decide +kernel
theorem dJ2_getChar_3b067_58 : decode cJ2_getChar_3b067 58 = .ok (.i2c, 1) := by decide +kernel
theorem dJ2_getChar_3b067_59 : decode cJ2_getChar_3b067 59 = .ok (.ireturn, 1) := by decide +kernel
theorem dJ2_length_9d52b_0 : decode cJ2_length_9d52b 0 = .ok (.aload_n 0, 1) := by decide +kernel
theorem dJ2_length_9d52b_1 : decode cJ2_length_9d52b 1 = .ok (.arraylength, 1) := by decide +kernel
theorem dJ2_length_9d52b_2 : decode cJ2_length_9d52b 2 = .ok (.iconst 1, 1) := by decide +kernel
theorem dJ2_length_9d52b_3 : decode cJ2_length_9d52b 3 = .ok (.ishr, 1) := by decide +kernel
theorem dJ2_length_9d52b_4 : decode cJ2_length_9d52b 4 = .ok (.ireturn, 1) := by decide +kernel
set_option maxRecDepth 20000 in
theorem ggJ2_indexOf_4cfef_J2_indexOfChar_4cfef : GoodIn wsJ2_indexOf_4cfef wsJ2_indexOfChar_4cfef := goodIn_r _ [12, 13, 14, 11, 15, 16, 17, 18, 19, 20, 21, 22, 23, 24, 25, 26, 27, 28, 29, 30, 31, 32, 33, 34, 35, 36] (by decide +kernel) (by decide +kernel)
set_option maxRecDepth 20000 in
theorem gJ2_indexOf_4cfef_J2_indexOfChar_4cfef : GoodIn wsJ2_indexOf_4cfef (va_wsS RJ2 228 yJ2_indexOfChar_4cfef wsJ2_indexOfChar_4cfef) := goodIn_app (goodIn_of _ (by decide +kernel)) ggJ2_indexOf_4cfef_J2_indexOfChar_4cfef
set_option maxRecDepth 20000 in
theorem ggJ2_indexOf_4cfef_J2_indexOfSupplementary_4cfef : GoodIn wsJ2_indexOf_4cfef wsJ2_indexOfSupplementary_4cfef := goodIn_r _ [39, 40, 41, 42, 43, 44, 45, 46, 47, 48, 49, 50, 51, 13, 14, 11, 15, 16, 17, 18, 19, 20, 21, 22, 23, 24, 25, 26, 27, 31, 32, 33, 34, 35, 36] (by decide +kernel) (by decide +kernel)
set_option maxRecDepth 20000 in
theorem gJ2_indexOf_4cfef_J2_indexOfSupplementary_4cfef : GoodIn wsJ2_indexOf_4cfef (va_wsS RJ2 232 yJ2_indexOfSupplementary_4cfef wsJ2_indexOfSupplementary_4cfef) := goodIn_app (goodIn_of _ (by decide +kernel)) ggJ2_indexOf_4cfef_J2_indexOfSupplementary_4cfef
theorem dJ2_indexOf_4cfef_0 : decode cJ2_indexOf_4cfef 0 = .ok (.iload_n 2, 1) := by decide +kernel
theorem dJ2_indexOf_4cfef_1 : decode cJ2_indexOf_4cfef 1 = .ok (.iconst 0, 1) := by decide +kernel
theorem dJ2_indexOf_4cfef_2 : decode cJ2_indexOf_4cfef 2 = .ok (.invokestatic 224, 3) := by decide +kernel
theorem dJ2_indexOf_4cfef_5 : decode cJ2_indexOf_4cfef 5 = .ok (.istore_n 2, 1) := by decide +kernel
theorem dJ2_indexOf_4cfef_6 : decode cJ2_indexOf_4cfef 6 = .ok (.iload_n 3, 1) := by decide +kernel
theorem dJ2_indexOf_4cfef_7 : decode cJ2_indexOf_4cfef 7 = .ok (.aload_n 0, 1) := by decide +kernel
theorem dJ2_indexOf_4cfef_8 : decode cJ2_indexOf_4cfef 8 = .ok (.arraylength, 1) := by decide +kernel
theorem dJ2_indexOf_4cfef_9 : decode cJ2_indexOf_4cfef 9 = .ok (.iconst 1, 1) := by decide +kernel
theorem dJ2_indexOf_4cfef_10 : decode cJ2_indexOf_4cfef 10 = .ok (.ishr, 1) := by decide +kernel
theorem dJ2_indexOf_4cfef_11 : decode cJ2_indexOf_4cfef 11 = .ok (.invokestatic 183, 3) := by decide +kernel
theorem dJ2_indexOf_4cfef_14 : decode cJ2_indexOf_4cfef 14 = .ok (.istore_n 3, 1) := by decide +kernel
theorem dJ2_indexOf_4cfef_15 : decode cJ2_indexOf_4cfef 15 = .ok (.iload_n 2, 1) := by decide +kernel
theorem dJ2_indexOf_4cfef_16 : decode cJ2_indexOf_4cfef 16 = .ok (.iload_n 3, 1) := by decide +kernel
theorem dJ2_indexOf_4cfef_17 : decode cJ2_indexOf_4cfef 17 = .ok (.if_icmp .lt 5, 3) := by decide +kernel
theorem dJ2_indexOf_4cfef_20 : decode cJ2_indexOf_4cfef 20 = .ok (.iconst (-1), 1) := by decide +kernel
theorem dJ2_indexOf_4cfef_21 : decode cJ2_indexOf_4cfef 21 = .ok (.ireturn, 1) := by decide +kernel
theorem dJ2_indexOf_4cfef_22 : decode cJ2_indexOf_4cfef 22 = .ok (.iload_n 1, 1) := by decide +kernel
theorem dJ2_indexOf_4cfef_23 : decode cJ2_indexOf_4cfef 23 = .ok (.ldc 227, 2) := by decide +kernel
theorem dJ2_indexOf_4cfef_25 : decode cJ2_indexOf_4cfef 25 = .ok (.if_icmp .ge 11, 3) := by decide +kernel
theorem dJ2_indexOf_4cfef_28 : decode cJ2_indexOf_4cfef 28 = .ok (.aload_n 0, 1) := by decide +kernel
theorem dJ2_indexOf_4cfef_29 : decode cJ2_indexOf_4cfef 29 = .ok (.iload_n 1, 1) := by decide +kernel
theorem dJ2_indexOf_4cfef_30 : decode cJ2_indexOf_4cfef 30 = .ok (.iload_n 2, 1) := by decide +kernel
theorem dJ2_indexOf_4cfef_31 : decode cJ2_indexOf_4cfef 31 = .ok (.iload_n 3, 1) := by decide +kernel
theorem dJ2_indexOf_4cfef_32 : decode cJ2_indexOf_4cfef 32 = .ok (.invokestatic 228, 3) := by decide +kernel
theorem dJ2_indexOf_4cfef_35 : decode cJ2_indexOf_4cfef 35 = .ok (.ireturn, 1) := by decide +kernel
theorem dJ2_indexOf_4cfef_36 : decode cJ2_indexOf_4cfef 36 = .ok (.aload_n 0, 1) := by decide +kernel
theorem dJ2_indexOf_4cfef_37 : decode cJ2_indexOf_4cfef 37 = .ok (.iload_n 1, 1) := by decide +kernel
theorem dJ2_indexOf_4cfef_38 : decode cJ2_indexOf_4cfef 38 = .ok (.iload_n 2, 1) := by decide +kernel
theorem dJ2_indexOf_4cfef_39 : decode cJ2_indexOf_4cfef 39 = .ok (.iload_n 3, 1) := by decide +kernel
theorem dJ2_indexOf_4cfef_40 : decode cJ2_indexOf_4cfef 40 = .ok (.invokestatic 232, 3) := by decide +kernel
theorem dJ2_indexOf_4cfef_43 : decode cJ2_indexOf_4cfef 43 = .ok (.ireturn, 1) := by decide +kernel
set_option maxRecDepth 20000 in
theorem ggJ2_indexOfChar_4cfef_J2_checkBoundsBeginEnd_d044e : GoodIn wsJ2_indexOfChar_4cfef wsJ2_checkBoundsBeginEnd_d044e := goodIn_r _ [4, 5, 6, 3, 7, 8, 9, 10, 11, 12, 13, 14, 15, 16] (by decide +kernel) (by decide +kernel)
set_option maxRecDepth 20000 in
theorem gJ2_indexOfChar_4cfef_J2_checkBoundsBeginEnd_d044e : GoodIn wsJ2_indexOfChar_4cfef (va_wsS RJ2 96 yJ2_checkBoundsBeginEnd_d044e wsJ2_checkBoundsBeginEnd_d044e) := goodIn_app (goodIn_of _ (by decide +kernel)) ggJ2_indexOfChar_4cfef_J2_checkBoundsBeginEnd_d044e
set_option maxRecDepth 20000 in
theorem ggJ2_indexOfChar_4cfef_J2_indexOfCharUnsafe_4cfef : GoodIn wsJ2_indexOfChar_4cfef wsJ2_indexOfCharUnsafe_4cfef := goodIn_r _ [19, 20, 21, 3, 22, 23, 24, 25, 5, 6, 7] (by decide +kernel) (by decide +kernel)
set_option maxRecDepth 20000 in
theorem gJ2_indexOfChar_4cfef_J2_indexOfCharUnsafe_4cfef : GoodIn wsJ2_indexOfChar_4cfef (va_wsS RJ2 244 yJ2_indexOfCharUnsafe_4cfef wsJ2_indexOfCharUnsafe_4cfef) := goodIn_app (goodIn_of _ (by decide +kernel)) ggJ2_indexOfChar_4cfef_J2_indexOfCharUnsafe_4cfef
theorem dJ2_indexOfChar_4cfef_0 : decode cJ2_indexOfChar_4cfef 0 = .ok (.iload_n 2, 1) := by decide +kernel
theorem dJ2_indexOfChar_4cfef_1 : decode cJ2_indexOfChar_4cfef 1 = .ok (.iload_n 3, 1) := by decide +kernel
theorem dJ2_indexOfChar_4cfef_2 : decode cJ2_indexOfChar_4cfef 2 = .ok (.aload_n 0, 1) := by decide +kernel
theorem dJ2_indexOfChar_4cfef_3 : decode cJ2_indexOfChar_4cfef 3 = .ok (.invokestatic 96, 3) := by decide +kernel
theorem dJ2_indexOfChar_4cfef_6 : decode cJ2_indexOfChar_4cfef 6 = .ok (.aload_n 0, 1) := by decide +kernel
theorem dJ2_indexOfChar_4cfef_7 : decode cJ2_indexOfChar_4cfef 7 = .ok (.iload_n 1, 1) := by decide +kernel
theorem dJ2_indexOfChar_4cfef_8 : decode cJ2_indexOfChar_4cfef 8 = .ok (.iload_n 2, 1) := by decide +kernel
theorem dJ2_indexOfChar_4cfef_9 : decode cJ2_indexOfChar_4cfef 9 = .ok (.iload_n 3, 1) := by decide +kernel
theorem dJ2_indexOfChar_4cfef_10 : decode cJ2_indexOfChar_4cfef 10 = .ok (.invokestatic 244, 3) := by decide +kernel
theorem dJ2_indexOfChar_4cfef_13 : decode cJ2_indexOfChar_4cfef 13 = .ok (.ireturn, 1) := by decide +kernel
set_option maxRecDepth 20000 in
theorem ggJ2_indexOfCharUnsafe_4cfef_J2_getChar_3b067 : GoodIn wsJ2_indexOfCharUnsafe_4cfef wsJ2_getChar_3b067 := goodIn_r _ [4, 5, 6, 7, 8, 9, 3, 10] (by decide +kernel) (by decide +kernel)
set_option maxRecDepth 20000 in
theorem gJ2_indexOfCharUnsafe_4cfef_J2_getChar_3b067 : GoodIn wsJ2_indexOfCharUnsafe_4cfef (va_wsS RJ2 71 yJ2_getChar_3b067 wsJ2_getChar_3b067) := goodIn_app (goodIn_of _ (by decide +kernel)) ggJ2_indexOfCharUnsafe_4cfef_J2_getChar_3b067
theorem dJ2_indexOfCharUnsafe_4cfef_0 : decode cJ2_indexOfCharUnsafe_4cfef 0 = .ok (.iload_n 2, 1) := by decide +kernel
theorem dJ2_indexOfCharUnsafe_4cfef_1 : decode cJ2_indexOfCharUnsafe_4cfef 1 = .ok (.istore 4, 2) := by decide +kernel
theorem dJ2_indexOfCharUnsafe_4cfef_3 : decode cJ2_indexOfCharUnsafe_4cfef 3 = .ok (.iload 4, 2) := by decide +kernel
theorem dJ2_indexOfCharUnsafe_4cfef_5 : decode cJ2_indexOfCharUnsafe_4cfef 5 = .ok (.iload_n 3, 1) := by decide +kernel
theorem dJ2_indexOfCharUnsafe_4cfef_6 : decode cJ2_indexOfCharUnsafe_4cfef 6 = .ok (.if_icmp .ge 22, 3) := by decide +kernel
theorem dJ2_indexOfCharUnsafe_4cfef_9 : decode cJ2_indexOfCharUnsafe_4cfef 9 = .ok (.aload_n 0, 1) := by decide +kernel
theorem dJ2_indexOfCharUnsafe_4cfef_10 : decode cJ2_indexOfCharUnsafe_4cfef 10 = .ok (.iload 4, 2) := by decide +kernel
theorem dJ2_indexOfCharUnsafe_4cfef_12 : decode cJ2_indexOfCharUnsafe_4cfef 12 = .ok (.invokestatic 71, 3) := by decide +kernel
theorem dJ2_indexOfCharUnsafe_4cfef_15 : decode cJ2_indexOfCharUnsafe_4cfef 15 = .ok (.iload_n 1, 1) := by decide +kernel
theorem dJ2_indexOfCharUnsafe_4cfef_16 : decode cJ2_indexOfCharUnsafe_4cfef 16 = .ok (.if_icmp .ne 6, 3) := by decide +kernel
theorem dJ2_indexOfCharUnsafe_4cfef_19 : decode cJ2_indexOfCharUnsafe_4cfef 19 = .ok (.iload 4, 2) := by decide +kernel
theorem dJ2_indexOfCharUnsafe_4cfef_21 : decode cJ2_indexOfCharUnsafe_4cfef 21 = .ok (.ireturn, 1) := by decide +kernel
theorem dJ2_indexOfCharUnsafe_4cfef_22 : decode cJ2_indexOfCharUnsafe_4cfef 22 = .ok (.iinc 4 1, 3) := by decide +kernel
theorem dJ2_indexOfCharUnsafe_4cfef_25 : decode cJ2_indexOfCharUnsafe_4cfef 25 = .ok (.goto (-22), 3) := by decide +kernel
theorem dJ2_indexOfCharUnsafe_4cfef_28 : decode cJ2_indexOfCharUnsafe_4cfef 28 = .ok (.iconst (-1), 1) := by decide +kernel
theorem dJ2_indexOfCharUnsafe_4cfef_29 : decode cJ2_indexOfCharUnsafe_4cfef 29 = .ok (.ireturn, 1) := by decide +kernel
set_option maxRecDepth 20000 in
theorem ggJ2_indexOfSupplementary_4cfef_J11_isValidCodePoint_9a6ad : GoodIn wsJ2_indexOfSupplementary_4cfef wsJ11_isValidCodePoint_9a6ad := goodIn_r _ [4] (by decide +kernel) (by decide +kernel)
set_option maxRecDepth 20000 in
theorem gJ2_indexOfSupplementary_4cfef_J11_isValidCodePoint_9a6ad : GoodIn wsJ2_indexOfSupplementary_4cfef (va_wsS RJ2 164 yJ11_isValidCodePoint_9a6ad wsJ11_isValidCodePoint_9a6ad) := goodIn_app (goodIn_of _ (by decide +kernel)) ggJ2_indexOfSupplementary_4cfef_J11_isValidCodePoint_9a6ad
set_option maxRecDepth 20000 in
theorem ggJ2_indexOfSupplementary_4cfef_J11_highSurrogate_5068e : GoodIn wsJ2_indexOfSupplementary_4cfef wsJ11_highSurrogate_5068e := goodIn_r _ [7, 8] (by decide +kernel) (by decide +kernel)
set_option maxRecDepth 20000 in
theorem gJ2_indexOfSupplementary_4cfef_J11_highSurrogate_5068e : GoodIn wsJ2_indexOfSupplementary_4cfef (va_wsS RJ2 157 yJ11_highSurrogate_5068e wsJ11_highSurrogate_5068e) := goodIn_app (goodIn_of _ (by decide +kernel)) ggJ2_indexOfSupplementary_4cfef_J11_highSurrogate_5068e
set_option maxRecDepth 20000 in
theorem ggJ2_indexOfSupplementary_4cfef_J11_lowSurrogate_5068e : GoodIn wsJ2_indexOfSupplementary_4cfef wsJ11_lowSurrogate_5068e := goodIn_r _ [11, 12] (by decide +kernel) (by decide +kernel)
set_option maxRecDepth 20000 in
theorem gJ2_indexOfSupplementary_4cfef_J11_lowSurrogate_5068e : GoodIn wsJ2_indexOfSupplementary_4cfef (va_wsS RJ2 161 yJ11_lowSurrogate_5068e wsJ11_lowSurrogate_5068e) := goodIn_app (goodIn_of _ (by decide +kernel)) ggJ2_indexOfSupplementary_4cfef_J11_lowSurrogate_5068e
set_option maxRecDepth 20000 in
theorem ggJ2_indexOfSupplementary_4cfef_J2_checkBoundsBeginEnd_d044e : GoodIn wsJ2_indexOfSupplementary_4cfef wsJ2_checkBoundsBeginEnd_d044e := goodIn_r _ [16, 17, 18, 15, 19, 20, 21, 22, 23, 24, 25, 26, 27, 28] (by decide +kernel) (by decide +kernel)
set_option maxRecDepth 20000 in
theorem gJ2_indexOfSupplementary_4cfef_J2_checkBoundsBeginEnd_d044e : GoodIn wsJ2_indexOfSupplementary_4cfef (va_wsS RJ2 96 yJ2_checkBoundsBeginEnd_d044e wsJ2_checkBoundsBeginEnd_d044e) := goodIn_app (goodIn_of _ (by decide +kernel)) ggJ2_indexOfSupplementary_4cfef_J2_checkBoundsBeginEnd_d044e
set_option maxRecDepth 20000 in
theorem ggJ2_indexOfSupplementary_4cfef_J2_getChar_3b067 : GoodIn wsJ2_indexOfSupplementary_4cfef wsJ2_getChar_3b067 := goodIn_r _ [31, 32, 33, 34, 17, 18, 15, 19] (by decide +kernel) (by decide +kernel)
set_option maxRecDepth 20000 in
theorem gJ2_indexOfSupplementary_4cfef_J2_getChar_3b067 : GoodIn wsJ2_indexOfSupplementary_4cfef (va_wsS RJ2 71 yJ2_getChar_3b067 wsJ2_getChar_3b067) := goodIn_app (goodIn_of _ (by decide +kernel)) ggJ2_indexOfSupplementary_4cfef_J2_getChar_3b067
theorem dJ2_indexOfSupplementary_4cfef_0 : decode cJ2_indexOfSupplementary_4cfef 0 = .ok (.iload_n 1, 1) := by decide +kernel
theorem dJ2_indexOfSupplementary_4cfef_1 : decode cJ2_indexOfSupplementary_4cfef 1 = .ok (.invokestatic 164, 3) := by decide +kernel
theorem dJ2_indexOfSupplementary_4cfef_4 : decode cJ2_indexOfSupplementary_4cfef 4 = .ok (.ifCond .eq 65, 3) := by decide +kernel
theorem dJ2_indexOfSupplementary_4cfef_7 : decode cJ2_indexOfSupplementary_4cfef 7 = .ok (.iload_n 1, 1) := by decide +kernel
theorem dJ2_indexOfSupplementary_4cfef_8 : decode cJ2_indexOfSupplementary_4cfef 8 = .ok (.invokestatic 157, 3) := by decide +kernel
theorem dJ2_indexOfSupplementary_4cfef_11 : decode cJ2_indexOfSupplementary_4cfef 11 = .ok (.istore 4, 2) := by decide +kernel
theorem dJ2_indexOfSupplementary_4cfef_13 : decode cJ2_indexOfSupplementary_4cfef 13 = .ok (.iload_n 1, 1) := by decide +kernel
theorem dJ2_indexOfSupplementary_4cfef_14 : decode cJ2_indexOfSupplementary_4cfef 14 = .ok (.invokestatic 161, 3) := by decide +kernel
theorem dJ2_indexOfSupplementary_4cfef_17 : decode cJ2_indexOfSupplementary_4cfef 17 = .ok (.istore 5, 2) := by decide +kernel
theorem dJ2_indexOfSupplementary_4cfef_19 : decode cJ2_indexOfSupplementary_4cfef 19 = .ok (.iload_n 2, 1) := by decide +kernel
theorem dJ2_indexOfSupplementary_4cfef_20 : decode cJ2_indexOfSupplementary_4cfef 20 = .ok (.iload_n 3, 1) := by decide +kernel
theorem dJ2_indexOfSupplementary_4cfef_21 : decode cJ2_indexOfSupplementary_4cfef 21 = .ok (.aload_n 0, 1) := by decide +kernel
theorem dJ2_indexOfSupplementary_4cfef_22 : decode cJ2_indexOfSupplementary_4cfef 22 = .ok (.invokestatic 96, 3) := by decide +kernel
theorem dJ2_indexOfSupplementary_4cfef_25 : decode cJ2_indexOfSupplementary_4cfef 25 = .ok (.iload_n 2, 1) := by decide +kernel
theorem dJ2_indexOfSupplementary_4cfef_26 : decode cJ2_indexOfSupplementary_4cfef 26 = .ok (.istore 6, 2) := by decide +kernel
theorem dJ2_indexOfSupplementary_4cfef_28 : decode cJ2_indexOfSupplementary_4cfef 28 = .ok (.iload 6, 2) := by decide +kernel
theorem dJ2_indexOfSupplementary_4cfef_30 : decode cJ2_indexOfSupplementary_4cfef 30 = .ok (.iload_n 3, 1) := by decide +kernel
theorem dJ2_indexOfSupplementary_4cfef_31 : decode cJ2_indexOfSupplementary_4cfef 31 = .ok (.iconst 1, 1) := by decide +kernel
theorem dJ2_indexOfSupplementary_4cfef_32 : decode cJ2_indexOfSupplementary_4cfef 32 = .ok (.isub, 1) := by decide +kernel
theorem dJ2_indexOfSupplementary_4cfef_33 : decode cJ2_indexOfSupplementary_4cfef 33 = .ok (.if_icmp .ge 36, 3) := by decide +kernel
theorem dJ2_indexOfSupplementary_4cfef_36 : decode cJ2_indexOfSupplementary_4cfef 36 = .ok (.aload_n 0, 1) := by decide +kernel
theorem dJ2_indexOfSupplementary_4cfef_37 : decode cJ2_indexOfSupplementary_4cfef 37 = .ok (.iload 6, 2) := by decide +kernel
theorem dJ2_indexOfSupplementary_4cfef_39 : decode cJ2_indexOfSupplementary_4cfef 39 = .ok (.invokestatic 71, 3) := by decide +kernel
theorem dJ2_indexOfSupplementary_4cfef_42 : decode cJ2_indexOfSupplementary_4cfef 42 = .ok (.iload 4, 2) := by decide +kernel
theorem dJ2_indexOfSupplementary_4cfef_44 : decode cJ2_indexOfSupplementary_4cfef 44 = .ok (.if_icmp .ne 19, 3) := by decide +kernel
theorem dJ2_indexOfSupplementary_4cfef_47 : decode cJ2_indexOfSupplementary_4cfef 47 = .ok (.aload_n 0, 1) := by decide +kernel
theorem dJ2_indexOfSupplementary_4cfef_48 : decode cJ2_indexOfSupplementary_4cfef 48 = .ok (.iload 6, 2) := by decide +kernel
theorem dJ2_indexOfSupplementary_4cfef_50 : decode cJ2_indexOfSupplementary_4cfef 50 = .ok (.iconst 1, 1) := by decide +kernel
theorem dJ2_indexOfSupplementary_4cfef_51 : decode cJ2_indexOfSupplementary_4cfef 51 = .ok (.iadd, 1) := by decide +kernel
theorem dJ2_indexOfSupplementary_4cfef_52 : decode cJ2_indexOfSupplementary_4cfef 52 = .ok (.invokestatic 71, 3) := by decide +kernel
theorem dJ2_indexOfSupplementary_4cfef_55 : decode cJ2_indexOfSupplementary_4cfef 55 = .ok (.iload 5, 2) := by decide +kernel
theorem dJ2_indexOfSupplementary_4cfef_57 : decode cJ2_indexOfSupplementary_4cfef 57 = .ok (.if_icmp .ne 6, 3) := by decide +kernel
theorem dJ2_indexOfSupplementary_4cfef_60 : decode cJ2_indexOfSupplementary_4cfef 60 = .ok (.iload 6, 2) := by decide +kernel
theorem dJ2_indexOfSupplementary_4cfef_62 : decode cJ2_indexOfSupplementary_4cfef 62 = .ok (.ireturn, 1) := by decide +kernel
theorem dJ2_indexOfSupplementary_4cfef_63 : decode cJ2_indexOfSupplementary_4cfef 63 = .ok (.iinc 6 1, 3) := by decide +kernel
theorem dJ2_indexOfSupplementary_4cfef_66 : decode cJ2_indexOfSupplementary_4cfef 66 = .ok (.goto (-38), 3) := by decide +kernel
theorem dJ2_indexOfSupplementary_4cfef_69 : decode cJ2_indexOfSupplementary_4cfef 69 = .ok (.iconst (-1), 1) := by decide +kernel
theorem dJ2_indexOfSupplementary_4cfef_70 : decode cJ2_indexOfSupplementary_4cfef 70 = .ok (.ireturn, 1) := by decide +kernel
set_option maxRecDepth 20000 in
theorem ggJ2_checkBoundsBeginEnd_d044e_J2_length_9d52b : GoodIn wsJ2_checkBoundsBeginEnd_d044e wsJ2_length_9d52b := goodIn_r _ [4] (by decide +kernel) (by decide +kernel)
set_option maxRecDepth 20000 in
theorem gJ2_checkBoundsBeginEnd_d044e_J2_length_9d52b : GoodIn wsJ2_checkBoundsBeginEnd_d044e (va_wsS RJ2 48 yJ2_length_9d52b wsJ2_length_9d52b) := goodIn_app (goodIn_of _ (by decide +kernel)) ggJ2_checkBoundsBeginEnd_d044e_J2_length_9d52b
set_option maxRecDepth 20000 in
theorem ggJ2_checkBoundsBeginEnd_d044e_J0_checkBoundsBeginEnd_23922 : GoodIn wsJ2_checkBoundsBeginEnd_d044e wsJ0_checkBoundsBeginEnd_23922 := goodIn_r _ [8, 9, 10, 11, 12, 13] (by decide +kernel) (by decide +kernel)
set_option maxRecDepth 20000 in
theorem gJ2_checkBoundsBeginEnd_d044e_J0_checkBoundsBeginEnd_23922 : GoodIn wsJ2_checkBoundsBeginEnd_d044e (va_wsS RJ2 241 yJ0_checkBoundsBeginEnd_23922 wsJ0_checkBoundsBeginEnd_23922) := goodIn_app (goodIn_of _ (by decide +kernel)) ggJ2_checkBoundsBeginEnd_d044e_J0_checkBoundsBeginEnd_23922
theorem dJ2_checkBoundsBeginEnd_d044e_0 : decode cJ2_checkBoundsBeginEnd_d044e 0 = .ok (.iload_n 0, 1) := by decide +kernel
theorem dJ2_checkBoundsBeginEnd_d044e_1 : decode cJ2_checkBoundsBeginEnd_d044e 1 = .ok (.iload_n 1, 1) := by decide +kernel
theorem dJ2_checkBoundsBeginEnd_d044e_2 : decode cJ2_checkBoundsBeginEnd_d044e 2 = .ok (.aload_n 2, 1) := by decide +kernel
theorem dJ2_checkBoundsBeginEnd_d044e_3 : decode cJ2_checkBoundsBeginEnd_d044e 3 = .ok (.invokestatic 48, 3) := by decide +kernel
theorem dJ2_checkBoundsBeginEnd_d044e_6 : decode cJ2_checkBoundsBeginEnd_d044e 6 = .ok (.invokestatic 241, 3) := by decide +kernel
theorem dJ2_checkBoundsBeginEnd_d044e_9 : decode cJ2_checkBoundsBeginEnd_d044e 9 = .ok (.return_, 1) := by decide +kernel
theorem dJ7_fill_53178_0 : decode cJ7_fill_53178 0 = .ok (.iconst 0, 1) := by decide +kernel
theorem dJ7_fill_53178_1 : decode cJ7_fill_53178 1 = .ok (.istore_n 2, 1) := by decide +kernel
theorem dJ7_fill_53178_2 : decode cJ7_fill_53178 2 = .ok (.aload_n 0, 1) := by decide +kernel
theorem dJ7_fill_53178_3 : decode cJ7_fill_53178 3 = .ok (.arraylength, 1) := by decide +kernel
theorem dJ7_fill_53178_4 : decode cJ7_fill_53178 4 = .ok (.istore_n 3, 1) := by decide +kernel
theorem dJ7_fill_53178_5 : decode cJ7_fill_53178 5 = .ok (.iload_n 2, 1) := by decide +kernel
theorem dJ7_fill_53178_6 : decode cJ7_fill_53178 6 = .ok (.iload_n 3, 1) := by decide +kernel
theorem dJ7_fill_53178_7 : decode cJ7_fill_53178 7 = .ok (.if_icmp .ge 13, 3) := by decide +kernel
theorem dJ7_fill_53178_10 : decode cJ7_fill_53178 10 = .ok (.aload_n 0, 1) := by decide +kernel
theorem dJ7_fill_53178_11 : decode cJ7_fill_53178 11 = .ok (.iload_n 2, 1) := by decide +kernel
theorem dJ7_fill_53178_12 : decode cJ7_fill_53178 12 = .ok (.iload_n 1, 1) := by decide +kernel
theorem dJ7_fill_53178_13 : decode cJ7_fill_53178 13 = .ok (.iastore, 1) := by decide +kernel
theorem dJ7_fill_53178_14 : decode cJ7_fill_53178 14 = .ok (.iinc 2 1, 3) := by decide +kernel
theorem dJ7_fill_53178_17 : decode cJ7_fill_53178 17 = .ok (.goto (-12), 3) := by decide +kernel
theorem dJ7_fill_53178_20 : decode cJ7_fill_53178 20 = .ok (.return_, 1) := by decide +kernel
theorem dJ3_checkFromToIndex_8c36e_0 : decode cJ3_checkFromToIndex_8c36e 0 = .ok (.iload_n 0, 1) := by decide +kernel
theorem dJ3_checkFromToIndex_8c36e_1 : decode cJ3_checkFromToIndex_8c36e 1 = .ok (.ifCond .lt 13, 3) := by decide +kernel
theorem dJ3_checkFromToIndex_8c36e_4 : decode cJ3_checkFromToIndex_8c36e 4 = .ok (.iload_n 0, 1) := by decide +kernel
theorem dJ3_checkFromToIndex_8c36e_5 : decode cJ3_checkFromToIndex_8c36e 5 = .ok (.iload_n 1, 1) := by decide +kernel
theorem dJ3_checkFromToIndex_8c36e_6 : decode cJ3_checkFromToIndex_8c36e 6 = .ok (.if_icmp .gt 8, 3) := by decide +kernel
theorem dJ3_checkFromToIndex_8c36e_9 : decode cJ3_checkFromToIndex_8c36e 9 = .ok (.iload_n 1, 1) := by decide +kernel
theorem dJ3_checkFromToIndex_8c36e_10 : decode cJ3_checkFromToIndex_8c36e 10 = .ok (.iload_n 2, 1) := by decide +kernel
theorem dJ3_checkFromToIndex_8c36e_11 : decode cJ3_checkFromToIndex_8c36e 11 = .ok (.if_icmp .le 11, 3) := by decide +kernel
theorem dJ3_checkFromToIndex_8c36e_14 : decode cJ3_checkFromToIndex_8c36e 14 = .ok (.aload_n 3, 1) := by decide +kernel
theorem dJ3_checkFromToIndex_8c36e_15 : decode cJ3_checkFromToIndex_8c36e 15 = .ok (.iload_n 0, 1) := by decide +kernel
theorem dJ3_checkFromToIndex_8c36e_16 : decode cJ3_checkFromToIndex_8c36e 16 = .ok (.iload_n 1, 1) := by decide +kernel
theorem dJ3_checkFromToIndex_8c36e_17 : decode cJ3_checkFromToIndex_8c36e 17 = .ok (.iload_n 2, 1) := by decide +kernel
theorem dJ3_checkFromToIndex_8c36e_18 : decode cJ3_checkFromToIndex_8c36e 18 = .ok (.invokestatic 99, 3) := by decide +kernel
theorem dJ3_checkFromToIndex_8c36e_21 : decode cJ3_checkFromToIndex_8c36e 21 = .ok (.athrow, 1) := by decide +kernel
theorem dJ3_checkFromToIndex_8c36e_22 : decode cJ3_checkFromToIndex_8c36e 22 = .ok (.iload_n 0, 1) := by decide +kernel
theorem dJ3_checkFromToIndex_8c36e_23 : decode cJ3_checkFromToIndex_8c36e 23 = .ok (.ireturn, 1) := by decide +kernel
