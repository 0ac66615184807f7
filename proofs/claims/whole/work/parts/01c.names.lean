theorem dX5_as_27 : decode cX5_as 27 = .ok (.aload_n 0, 1) := by decide +kernel
theorem dX5_as_28 : decode cX5_as 28 = .ok (.getfield 12, 3) := by decide +kernel
theorem dX5_as_31 : decode cX5_as 31 = .ok (.getfield 94, 3) := by decide +kernel
theorem dX5_as_34 : decode cX5_as 34 = .ok (.iload_n 1, 1) := by decide +kernel
theorem dX5_as_35 : decode cX5_as 35 = .ok (.iaload, 1) := by decide +kernel
theorem dX5_as_36 : decode cX5_as 36 = .ok (.iload_n 2, 1) := by decide +kernel
theorem dX5_as_37 : decode cX5_as 37 = .ok (.invokestatic 109, 3) := by decide +kernel
theorem dX5_as_40 : decode cX5_as 40 = .ok (.ifCond .ne 9, 3) := by decide +kernel
theorem dX5_as_43 : decode cX5_as 43 = .ok (.aload_n 0, 1) := by decide +kernel
theorem dX5_as_44 : decode cX5_as 44 = .ok (.iconst 5, 1) := by decide +kernel
theorem dX5_as_45 : decode cX5_as 45 = .ok (.invokevirtual 60, 3) := by decide +kernel
theorem dX5_as_48 : decode cX5_as 48 = .ok (.ireturn, 1) := by decide +kernel
theorem dX5_as_49 : decode cX5_as 49 = .ok (.aload_n 0, 1) := by decide +kernel
theorem dX5_as_50 : decode cX5_as 50 = .ok (.getfield 12, 3) := by decide +kernel
theorem dX5_as_53 : decode cX5_as 53 = .ok (.getfield 97, 3) := by decide +kernel
theorem dX5_as_56 : decode cX5_as 56 = .ok (.iload_n 1, 1) := by decide +kernel
theorem dX5_as_57 : decode cX5_as 57 = .ok (.iaload, 1) := by decide +kernel
theorem dX5_as_58 : decode cX5_as 58 = .ok (.ireturn, 1) := by decide +kernel
set_option maxRecDepth 20000 in
theorem ggX5_carry_X3_hasClimber : GoodIn wsX5_carry wsX3_hasClimber := goodIn_r _ [5, 6, 27, 28, 29, 30, 31, 32, 33, 34, 35, 36, 37, 38, 39, 40, 41, 42] (by decide +kernel) (by decide +kernel)
set_option maxRecDepth 20000 in
theorem gX5_carry_X3_hasClimber_n91 : GoodIn wsX5_carry (wsX3_hasClimber) := ggX5_carry_X3_hasClimber
set_option maxRecDepth 20000 in
theorem ggX5_carry_X3_hasStep : GoodIn wsX5_carry wsX3_hasStep := goodIn_r _ [9, 10, 27, 28, 29, 30, 31, 32, 33, 34, 35, 36, 37, 38, 39, 40, 41, 42] (by decide +kernel) (by decide +kernel)
set_option maxRecDepth 20000 in
theorem gX5_carry_X3_hasStep_n74 : GoodIn wsX5_carry (wsX3_hasStep) := ggX5_carry_X3_hasStep
set_option maxRecDepth 20000 in
theorem ggX5_carry_X5_refuse : GoodIn wsX5_carry wsX5_refuse := goodIn_r _ [15, 16, 17, 18, 19, 20, 21, 22, 23, 24, 25, 26] (by decide +kernel) (by decide +kernel)
set_option maxRecDepth 20000 in
theorem gX5_carry_X5_refuse : GoodIn wsX5_carry (wsV RX5 60 RX5 yX5_refuse wsX5_refuse) := goodIn_app (goodIn_of _ (by decide +kernel)) ggX5_carry_X5_refuse
theorem dX5_carry_0 : decode cX5_carry 0 = .ok (.aload_n 0, 1) := by decide +kernel
theorem dX5_carry_1 : decode cX5_carry 1 = .ok (.getfield 12, 3) := by decide +kernel
theorem dX5_carry_4 : decode cX5_carry 4 = .ok (.iload_n 1, 1) := by decide +kernel
theorem dX5_carry_5 : decode cX5_carry 5 = .ok (.invokevirtual 91, 3) := by decide +kernel
theorem dX5_carry_8 : decode cX5_carry 8 = .ok (.ifCond .eq 14, 3) := by decide +kernel
theorem dX5_carry_11 : decode cX5_carry 11 = .ok (.aload_n 0, 1) := by decide +kernel
theorem dX5_carry_12 : decode cX5_carry 12 = .ok (.getfield 12, 3) := by decide +kernel
theorem dX5_carry_15 : decode cX5_carry 15 = .ok (.iload_n 2, 1) := by decide +kernel
theorem dX5_carry_16 : decode cX5_carry 16 = .ok (.invokevirtual 74, 3) := by decide +kernel
theorem dX5_carry_19 : decode cX5_carry 19 = .ok (.ifCond .ne 9, 3) := by decide +kernel
theorem dX5_carry_22 : decode cX5_carry 22 = .ok (.aload_n 0, 1) := by decide +kernel
theorem dX5_carry_23 : decode cX5_carry 23 = .ok (.iconst 1, 1) := by decide +kernel
theorem dX5_carry_24 : decode cX5_carry 24 = .ok (.invokevirtual 60, 3) := by decide +kernel
theorem dX5_carry_27 : decode cX5_carry 27 = .ok (.ireturn, 1) := by decide +kernel
theorem dX5_carry_28 : decode cX5_carry 28 = .ok (.aload_n 0, 1) := by decide +kernel
theorem dX5_carry_29 : decode cX5_carry 29 = .ok (.getfield 12, 3) := by decide +kernel
theorem dX5_carry_32 : decode cX5_carry 32 = .ok (.getfield 100, 3) := by decide +kernel
theorem dX5_carry_35 : decode cX5_carry 35 = .ok (.iload_n 1, 1) := by decide +kernel
theorem dX5_carry_36 : decode cX5_carry 36 = .ok (.iaload, 1) := by decide +kernel
theorem dX5_carry_37 : decode cX5_carry 37 = .ok (.istore_n 3, 1) := by decide +kernel
theorem dX5_carry_38 : decode cX5_carry 38 = .ok (.aload_n 0, 1) := by decide +kernel
theorem dX5_carry_39 : decode cX5_carry 39 = .ok (.getfield 12, 3) := by decide +kernel
theorem dX5_carry_42 : decode cX5_carry 42 = .ok (.getfield 100, 3) := by decide +kernel
theorem dX5_carry_45 : decode cX5_carry 45 = .ok (.iload_n 1, 1) := by decide +kernel
theorem dX5_carry_46 : decode cX5_carry 46 = .ok (.iload_n 2, 1) := by decide +kernel
theorem dX5_carry_47 : decode cX5_carry 47 = .ok (.iastore, 1) := by decide +kernel
theorem dX5_carry_48 : decode cX5_carry 48 = .ok (.iload_n 3, 1) := by decide +kernel
theorem dX5_carry_49 : decode cX5_carry 49 = .ok (.ireturn, 1) := by decide +kernel
set_option maxRecDepth 20000 in
theorem ggX5_height_X3_hasClimber : GoodIn wsX5_height wsX3_hasClimber := goodIn_r _ [5, 6, 26, 27, 28, 29, 30, 31, 32, 33, 34, 35, 36, 37, 38, 39, 40, 41] (by decide +kernel) (by decide +kernel)
set_option maxRecDepth 20000 in
theorem gX5_height_X3_hasClimber_n91 : GoodIn wsX5_height (wsX3_hasClimber) := ggX5_height_X3_hasClimber
set_option maxRecDepth 20000 in
theorem ggX5_height_X5_isOutside : GoodIn wsX5_height wsX5_isOutside := goodIn_r _ [10] (by decide +kernel) (by decide +kernel)
set_option maxRecDepth 20000 in
theorem gX5_height_X5_isOutside : GoodIn wsX5_height (va_wsS RX5 56 yX5_isOutside wsX5_isOutside) := goodIn_app (goodIn_of _ (by decide +kernel)) ggX5_height_X5_isOutside
set_option maxRecDepth 20000 in
theorem ggX5_height_X5_refuse : GoodIn wsX5_height wsX5_refuse := goodIn_r _ [14, 15, 16, 17, 18, 19, 20, 21, 22, 23, 24, 25] (by decide +kernel) (by decide +kernel)
set_option maxRecDepth 20000 in
theorem gX5_height_X5_refuse : GoodIn wsX5_height (wsV RX5 60 RX5 yX5_refuse wsX5_refuse) := goodIn_app (goodIn_of _ (by decide +kernel)) ggX5_height_X5_refuse
theorem dX5_height_0 : decode cX5_height 0 = .ok (.aload_n 0, 1) := by decide +kernel
theorem dX5_height_1 : decode cX5_height 1 = .ok (.getfield 12, 3) := by decide +kernel
theorem dX5_height_4 : decode cX5_height 4 = .ok (.iload_n 1, 1) := by decide +kernel
theorem dX5_height_5 : decode cX5_height 5 = .ok (.invokevirtual 91, 3) := by decide +kernel
theorem dX5_height_8 : decode cX5_height 8 = .ok (.ifCond .eq 16, 3) := by decide +kernel
theorem dX5_height_11 : decode cX5_height 11 = .ok (.iload_n 2, 1) := by decide +kernel
theorem dX5_height_12 : decode cX5_height 12 = .ok (.sipush (-9999), 3) := by decide +kernel
theorem dX5_height_15 : decode cX5_height 15 = .ok (.sipush 9999, 3) := by decide +kernel
theorem dX5_height_18 : decode cX5_height 18 = .ok (.invokestatic 56, 3) := by decide +kernel
theorem dX5_height_21 : decode cX5_height 21 = .ok (.ifCond .eq 9, 3) := by decide +kernel
theorem dX5_height_24 : decode cX5_height 24 = .ok (.aload_n 0, 1) := by decide +kernel
theorem dX5_height_25 : decode cX5_height 25 = .ok (.iconst 1, 1) := by decide +kernel
theorem dX5_height_26 : decode cX5_height 26 = .ok (.invokevirtual 60, 3) := by decide +kernel
theorem dX5_height_29 : decode cX5_height 29 = .ok (.ireturn, 1) := by decide +kernel
theorem dX5_height_30 : decode cX5_height 30 = .ok (.aload_n 0, 1) := by decide +kernel
theorem dX5_height_31 : decode cX5_height 31 = .ok (.getfield 12, 3) := by decide +kernel
theorem dX5_height_34 : decode cX5_height 34 = .ok (.getfield 103, 3) := by decide +kernel
theorem dX5_height_37 : decode cX5_height 37 = .ok (.iload_n 1, 1) := by decide +kernel
theorem dX5_height_38 : decode cX5_height 38 = .ok (.iaload, 1) := by decide +kernel
theorem dX5_height_39 : decode cX5_height 39 = .ok (.istore_n 3, 1) := by decide +kernel
theorem dX5_height_40 : decode cX5_height 40 = .ok (.aload_n 0, 1) := by decide +kernel
theorem dX5_height_41 : decode cX5_height 41 = .ok (.getfield 12, 3) := by decide +kernel
theorem dX5_height_44 : decode cX5_height 44 = .ok (.getfield 103, 3) := by decide +kernel
theorem dX5_height_47 : decode cX5_height 47 = .ok (.iload_n 1, 1) := by decide +kernel
theorem dX5_height_48 : decode cX5_height 48 = .ok (.iload_n 2, 1) := by decide +kernel
theorem dX5_height_49 : decode cX5_height 49 = .ok (.iastore, 1) := by decide +kernel
theorem dX5_height_50 : decode cX5_height 50 = .ok (.iload_n 3, 1) := by decide +kernel
theorem dX5_height_51 : decode cX5_height 51 = .ok (.ireturn, 1) := by decide +kernel
set_option maxRecDepth 20000 in
theorem ggX5_feed_X5_isOutside : GoodIn wsX5_feed wsX5_isOutside := goodIn_r _ [5] (by decide +kernel) (by decide +kernel)
set_option maxRecDepth 20000 in
theorem gX5_feed_X5_isOutside : GoodIn wsX5_feed (va_wsS RX5 56 yX5_isOutside wsX5_isOutside) := goodIn_app (goodIn_of _ (by decide +kernel)) ggX5_feed_X5_isOutside
set_option maxRecDepth 20000 in
theorem ggX5_feed_X5_refuse : GoodIn wsX5_feed wsX5_refuse := goodIn_r _ [9, 10, 11, 12, 13, 14, 15, 16, 17, 18, 19, 20] (by decide +kernel) (by decide +kernel)
set_option maxRecDepth 20000 in
theorem gX5_feed_X5_refuse : GoodIn wsX5_feed (wsV RX5 60 RX5 yX5_refuse wsX5_refuse) := goodIn_app (goodIn_of _ (by decide +kernel)) ggX5_feed_X5_refuse
theorem dX5_feed_0 : decode cX5_feed 0 = .ok (.iload_n 3, 1) := by decide +kernel
theorem dX5_feed_1 : decode cX5_feed 1 = .ok (.iconst 1, 1) := by decide +kernel
theorem dX5_feed_2 : decode cX5_feed 2 = .ok (.bipush 8, 2) := by decide +kernel
theorem dX5_feed_4 : decode cX5_feed 4 = .ok (.invokestatic 56, 3) := by decide +kernel
theorem dX5_feed_7 : decode cX5_feed 7 = .ok (.ifCond .eq 9, 3) := by decide +kernel
theorem dX5_feed_10 : decode cX5_feed 10 = .ok (.aload_n 0, 1) := by decide +kernel
theorem dX5_feed_11 : decode cX5_feed 11 = .ok (.iconst 1, 1) := by decide +kernel
theorem dX5_feed_12 : decode cX5_feed 12 = .ok (.invokevirtual 60, 3) := by decide +kernel
theorem dX5_feed_15 : decode cX5_feed 15 = .ok (.ireturn, 1) := by decide +kernel
theorem dX5_feed_16 : decode cX5_feed 16 = .ok (.aload_n 0, 1) := by decide +kernel
theorem dX5_feed_17 : decode cX5_feed 17 = .ok (.getfield 12, 3) := by decide +kernel
theorem dX5_feed_20 : decode cX5_feed 20 = .ok (.getfield 113, 3) := by decide +kernel
theorem dX5_feed_23 : decode cX5_feed 23 = .ok (.iload_n 3, 1) := by decide +kernel
theorem dX5_feed_24 : decode cX5_feed 24 = .ok (.iadd, 1) := by decide +kernel
theorem dX5_feed_25 : decode cX5_feed 25 = .ok (.bipush 60, 2) := by decide +kernel
theorem dX5_feed_27 : decode cX5_feed 27 = .ok (.if_icmp .le 9, 3) := by decide +kernel
theorem dX5_feed_30 : decode cX5_feed 30 = .ok (.aload_n 0, 1) := by decide +kernel
theorem dX5_feed_31 : decode cX5_feed 31 = .ok (.iconst 4, 1) := by decide +kernel
theorem dX5_feed_32 : decode cX5_feed 32 = .ok (.invokevirtual 60, 3) := by decide +kernel
theorem dX5_feed_35 : decode cX5_feed 35 = .ok (.ireturn, 1) := by decide +kernel
theorem dX5_feed_36 : decode cX5_feed 36 = .ok (.iconst 0, 1) := by decide +kernel
theorem dX5_feed_37 : decode cX5_feed 37 = .ok (.istore 4, 2) := by decide +kernel
theorem dX5_feed_39 : decode cX5_feed 39 = .ok (.iload 4, 2) := by decide +kernel
theorem dX5_feed_41 : decode cX5_feed 41 = .ok (.iload_n 3, 1) := by decide +kernel
theorem dX5_feed_42 : decode cX5_feed 42 = .ok (.if_icmp .ge 49, 3) := by decide +kernel
theorem dX5_feed_45 : decode cX5_feed 45 = .ok (.aload_n 0, 1) := by decide +kernel
theorem dX5_feed_46 : decode cX5_feed 46 = .ok (.getfield 12, 3) := by decide +kernel
theorem dX5_feed_49 : decode cX5_feed 49 = .ok (.getfield 116, 3) := by decide +kernel
theorem dX5_feed_52 : decode cX5_feed 52 = .ok (.aload_n 0, 1) := by decide +kernel
theorem dX5_feed_53 : decode cX5_feed 53 = .ok (.getfield 12, 3) := by decide +kernel
theorem dX5_feed_56 : decode cX5_feed 56 = .ok (.getfield 113, 3) := by decide +kernel
theorem dX5_feed_59 : decode cX5_feed 59 = .ok (.lload_n 1, 1) := by decide +kernel
theorem dX5_feed_60 : decode cX5_feed 60 = .ok (.bipush 8, 2) := by decide +kernel
theorem dX5_feed_62 : decode cX5_feed 62 = .ok (.iload 4, 2) := by decide +kernel
theorem dX5_feed_64 : decode cX5_feed 64 = .ok (.imul, 1) := by decide +kernel
theorem dX5_feed_65 : decode cX5_feed 65 = .ok (.lushr, 1) := by decide +kernel
theorem dX5_feed_66 : decode cX5_feed 66 = .ok (.l2i, 1) := by decide +kernel
theorem dX5_feed_67 : decode cX5_feed 67 = .ok (.sipush 255, 3) := by decide +kernel
theorem dX5_feed_70 : decode cX5_feed 70 = .ok (.iand, 1) := by decide +kernel
theorem dX5_feed_71 : decode cX5_feed 71 = .ok (.iastore, 1) := by decide +kernel
theorem dX5_feed_72 : decode cX5_feed 72 = .ok (.aload_n 0, 1) := by decide +kernel
theorem dX5_feed_73 : decode cX5_feed 73 = .ok (.getfield 12, 3) := by decide +kernel
theorem dX5_feed_76 : decode cX5_feed 76 = .ok (.dup, 1) := by decide +kernel
theorem dX5_feed_77 : decode cX5_feed 77 = .ok (.getfield 113, 3) := by decide +kernel
theorem dX5_feed_80 : decode cX5_feed 80 = .ok (.iconst 1, 1) := by decide +kernel
theorem dX5_feed_81 : decode cX5_feed 81 = .ok (.iadd, 1) := by decide +kernel
theorem dX5_feed_82 : decode cX5_feed 82 = .ok (.putfield 113, 3) := by decide +kernel
theorem dX5_feed_85 : decode cX5_feed 85 = .ok (.iinc 4 1, 3) := by decide +kernel
theorem dX5_feed_88 : decode cX5_feed 88 = .ok (.goto (-49), 3) := by decide +kernel
theorem dX5_feed_91 : decode cX5_feed 91 = .ok (.aload_n 0, 1) := by decide +kernel
theorem dX5_feed_92 : decode cX5_feed 92 = .ok (.getfield 12, 3) := by decide +kernel
theorem dX5_feed_95 : decode cX5_feed 95 = .ok (.getfield 113, 3) := by decide +kernel
theorem dX5_feed_98 : decode cX5_feed 98 = .ok (.ireturn, 1) := by decide +kernel
set_option maxRecDepth 20000 in
theorem ggX5_text_X5_isOutside : GoodIn wsX5_text wsX5_isOutside := goodIn_r _ [6] (by decide +kernel) (by decide +kernel)
set_option maxRecDepth 20000 in
theorem gX5_text_X5_isOutside : GoodIn wsX5_text (va_wsS RX5 56 yX5_isOutside wsX5_isOutside) := goodIn_app (goodIn_of _ (by decide +kernel)) ggX5_text_X5_isOutside
set_option maxRecDepth 20000 in
theorem ggX5_text_X5_refuse : GoodIn wsX5_text wsX5_refuse := goodIn_r _ [10, 11, 12, 165, 166, 167, 168, 169, 170, 171, 172, 173] (by decide +kernel) (by decide +kernel)
set_option maxRecDepth 20000 in
theorem gX5_text_X5_refuse : GoodIn wsX5_text (wsV RX5 60 RX5 yX5_refuse wsX5_refuse) := goodIn_app (goodIn_of _ (by decide +kernel)) ggX5_text_X5_refuse
set_option maxRecDepth 20000 in
theorem ggX5_text_X1_reads : GoodIn wsX5_text wsX1_reads := goodIn_r _ [16, 17, 18, 19, 20, 21, 22, 23, 24, 25, 26, 27, 28, 29, 30, 31, 32, 33, 34, 35, 36, 37, 14, 38, 39, 40, 41, 42, 43, 44, 45, 46, 47, 48, 49, 50, 51, 52, 53, 54, 55, 56, 57, 58, 59, 60, 61, 62, 63, 64, 65, 66, 67, 68, 69, 70, 71, 72, 73, 74, 75, 76, 77, 78, 79, 80, 81, 82, 83, 84, 85, 86, 87, 88, 89, 90, 91, 92, 93, 94, 95, 96, 97, 98, 99, 100, 101, 102, 103, 104, 105, 106, 107, 108, 109, 110, 111, 112, 113, 114, 115, 116, 117, 118, 119, 120, 121, 122, 123, 124, 125, 126, 127, 128, 129, 130, 131, 132, 133, 134, 135, 136, 137, 138, 139, 140, 141, 142, 143, 144, 145, 146, 147, 148, 149, 150, 151, 152, 153, 154, 190, 191, 192, 193, 194, 195, 196, 197] (by decide +kernel) (by decide +kernel)
set_option maxRecDepth 20000 in
theorem gX5_text_X1_reads_n123 : GoodIn wsX5_text (wsX1_reads) := ggX5_text_X1_reads
set_option maxRecDepth 20000 in
theorem ggX5_text_X3_lawOf : GoodIn wsX5_text wsX3_lawOf := goodIn_r _ [158, 159, 160, 174, 175, 176, 177, 178, 179, 180, 181, 182, 183, 184, 185, 186, 187, 188, 189] (by decide +kernel) (by decide +kernel)
set_option maxRecDepth 20000 in
theorem gX5_text_X3_lawOf_n130 : GoodIn wsX5_text (wsX3_lawOf) := ggX5_text_X3_lawOf
set_option maxRecDepth 20000 in
theorem ggX5_text_X0_copy : GoodIn wsX5_text wsX0_copy := goodIn_r _ [163, 34, 48, 164, 24, 25, 26, 195, 196, 197] (by decide +kernel) (by decide +kernel)
set_option maxRecDepth 20000 in
theorem gX5_text_X0_copy_n138 : GoodIn wsX5_text (wsX0_copy) := ggX5_text_X0_copy
theorem dX5_text_0 : decode cX5_text 0 = .ok (.iload_n 1, 1) := by decide +kernel
theorem dX5_text_1 : decode cX5_text 1 = .ok (.iconst 0, 1) := by decide +kernel
theorem dX5_text_2 : decode cX5_text 2 = .ok (.iconst 1, 1) := by decide +kernel
theorem dX5_text_3 : decode cX5_text 3 = .ok (.invokestatic 56, 3) := by decide +kernel
theorem dX5_text_6 : decode cX5_text 6 = .ok (.ifCond .eq 9, 3) := by decide +kernel
theorem dX5_text_9 : decode cX5_text 9 = .ok (.aload_n 0, 1) := by decide +kernel
theorem dX5_text_10 : decode cX5_text 10 = .ok (.iconst 1, 1) := by decide +kernel
theorem dX5_text_11 : decode cX5_text 11 = .ok (.invokevirtual 60, 3) := by decide +kernel
theorem dX5_text_14 : decode cX5_text 14 = .ok (.ireturn, 1) := by decide +kernel
theorem dX5_text_15 : decode cX5_text 15 = .ok (.aload_n 0, 1) := by decide +kernel
theorem dX5_text_16 : decode cX5_text 16 = .ok (.getfield 25, 3) := by decide +kernel
theorem dX5_text_19 : decode cX5_text 19 = .ok (.aload_n 0, 1) := by decide +kernel
theorem dX5_text_20 : decode cX5_text 20 = .ok (.getfield 12, 3) := by decide +kernel
theorem dX5_text_23 : decode cX5_text 23 = .ok (.getfield 116, 3) := by decide +kernel
theorem dX5_text_26 : decode cX5_text 26 = .ok (.aload_n 0, 1) := by decide +kernel
theorem dX5_text_27 : decode cX5_text 27 = .ok (.getfield 12, 3) := by decide +kernel
theorem dX5_text_30 : decode cX5_text 30 = .ok (.getfield 113, 3) := by decide +kernel
theorem dX5_text_33 : decode cX5_text 33 = .ok (.iload_n 1, 1) := by decide +kernel
theorem dX5_text_34 : decode cX5_text 34 = .ok (.ifCond .ne 8, 3) := by decide +kernel
theorem dX5_text_37 : decode cX5_text 37 = .ok (.ldc 119, 2) := by decide +kernel
theorem dX5_text_39 : decode cX5_text 39 = .ok (.goto 5, 3) := by decide +kernel
theorem dX5_text_42 : decode cX5_text 42 = .ok (.ldc 121, 2) := by decide +kernel
theorem dX5_text_44 : decode cX5_text 44 = .ok (.invokevirtual 123, 3) := by decide +kernel
theorem dX5_text_47 : decode cX5_text 47 = .ok (.istore_n 2, 1) := by decide +kernel
theorem dX5_text_48 : decode cX5_text 48 = .ok (.aload_n 0, 1) := by decide +kernel
theorem dX5_text_49 : decode cX5_text 49 = .ok (.getfield 12, 3) := by decide +kernel
theorem dX5_text_52 : decode cX5_text 52 = .ok (.iconst 0, 1) := by decide +kernel
theorem dX5_text_53 : decode cX5_text 53 = .ok (.putfield 113, 3) := by decide +kernel
theorem dX5_text_56 : decode cX5_text 56 = .ok (.iload_n 2, 1) := by decide +kernel
theorem dX5_text_57 : decode cX5_text 57 = .ok (.ifCond .ne 14, 3) := by decide +kernel
theorem dX5_text_60 : decode cX5_text 60 = .ok (.bipush (-10), 2) := by decide +kernel
theorem dX5_text_62 : decode cX5_text 62 = .ok (.aload_n 0, 1) := by decide +kernel
theorem dX5_text_63 : decode cX5_text 63 = .ok (.getfield 25, 3) := by decide +kernel
theorem dX5_text_66 : decode cX5_text 66 = .ok (.getfield 127, 3) := by decide +kernel
theorem dX5_text_69 : decode cX5_text 69 = .ok (.isub, 1) := by decide +kernel
theorem dX5_text_70 : decode cX5_text 70 = .ok (.ireturn, 1) := by decide +kernel
theorem dX5_text_71 : decode cX5_text 71 = .ok (.aload_n 0, 1) := by decide +kernel
theorem dX5_text_72 : decode cX5_text 72 = .ok (.getfield 12, 3) := by decide +kernel
theorem dX5_text_75 : decode cX5_text 75 = .ok (.iload_n 1, 1) := by decide +kernel
theorem dX5_text_76 : decode cX5_text 76 = .ok (.invokevirtual 130, 3) := by decide +kernel
theorem dX5_text_79 : decode cX5_text 79 = .ok (.aload_n 0, 1) := by decide +kernel
theorem dX5_text_80 : decode cX5_text 80 = .ok (.getfield 25, 3) := by decide +kernel
theorem dX5_text_83 : decode cX5_text 83 = .ok (.getfield 134, 3) := by decide +kernel
theorem dX5_text_86 : decode cX5_text 86 = .ok (.invokevirtual 138, 3) := by decide +kernel
theorem dX5_text_89 : decode cX5_text 89 = .ok (.iconst 1, 1) := by decide +kernel
theorem dX5_text_90 : decode cX5_text 90 = .ok (.ireturn, 1) := by decide +kernel
set_option maxRecDepth 20000 in
theorem ggX5_untell_X5_isOutside : GoodIn wsX5_untell wsX5_isOutside := goodIn_r _ [5] (by decide +kernel) (by decide +kernel)
set_option maxRecDepth 20000 in
theorem gX5_untell_X5_isOutside : GoodIn wsX5_untell (va_wsS RX5 56 yX5_isOutside wsX5_isOutside) := goodIn_app (goodIn_of _ (by decide +kernel)) ggX5_untell_X5_isOutside
set_option maxRecDepth 20000 in
theorem ggX5_untell_X5_refuse : GoodIn wsX5_untell wsX5_refuse := goodIn_r _ [9, 10, 11, 26, 27, 28, 29, 30, 31, 32, 33, 34] (by decide +kernel) (by decide +kernel)
set_option maxRecDepth 20000 in
theorem gX5_untell_X5_refuse : GoodIn wsX5_untell (wsV RX5 60 RX5 yX5_refuse wsX5_refuse) := goodIn_app (goodIn_of _ (by decide +kernel)) ggX5_untell_X5_refuse
set_option maxRecDepth 20000 in
theorem ggX5_untell_X3_lawOf : GoodIn wsX5_untell wsX3_lawOf := goodIn_r _ [15, 16, 17, 35, 36, 37, 38, 39, 40, 41, 42, 43, 44, 45, 46, 47, 48, 49, 50] (by decide +kernel) (by decide +kernel)
set_option maxRecDepth 20000 in
theorem gX5_untell_X3_lawOf_n130 : GoodIn wsX5_untell (wsX3_lawOf) := ggX5_untell_X3_lawOf
set_option maxRecDepth 20000 in
theorem ggX5_untell_X0_stands : GoodIn wsX5_untell wsX0_stands := goodIn_r _ [21, 22, 51, 52, 53] (by decide +kernel) (by decide +kernel)
set_option maxRecDepth 20000 in
theorem gX5_untell_X0_stands_n144 : GoodIn wsX5_untell (wsX0_stands) := ggX5_untell_X0_stands
set_option maxRecDepth 20000 in
theorem ggX5_untell_X0_clear : GoodIn wsX5_untell wsX0_clear := goodIn_r _ [25, 22, 51, 52, 53] (by decide +kernel) (by decide +kernel)
set_option maxRecDepth 20000 in
theorem gX5_untell_X0_clear_n148 : GoodIn wsX5_untell (wsX0_clear) := ggX5_untell_X0_clear
theorem dX5_untell_0 : decode cX5_untell 0 = .ok (.iload_n 1, 1) := by decide +kernel
theorem dX5_untell_1 : decode cX5_untell 1 = .ok (.iconst 0, 1) := by decide +kernel
theorem dX5_untell_2 : decode cX5_untell 2 = .ok (.iconst 1, 1) := by decide +kernel
theorem dX5_untell_3 : decode cX5_untell 3 = .ok (.invokestatic 56, 3) := by decide +kernel
theorem dX5_untell_6 : decode cX5_untell 6 = .ok (.ifCond .eq 9, 3) := by decide +kernel
theorem dX5_untell_9 : decode cX5_untell 9 = .ok (.aload_n 0, 1) := by decide +kernel
theorem dX5_untell_10 : decode cX5_untell 10 = .ok (.iconst 1, 1) := by decide +kernel
theorem dX5_untell_11 : decode cX5_untell 11 = .ok (.invokevirtual 60, 3) := by decide +kernel
theorem dX5_untell_14 : decode cX5_untell 14 = .ok (.ireturn, 1) := by decide +kernel
theorem dX5_untell_15 : decode cX5_untell 15 = .ok (.aload_n 0, 1) := by decide +kernel
theorem dX5_untell_16 : decode cX5_untell 16 = .ok (.getfield 12, 3) := by decide +kernel
theorem dX5_untell_19 : decode cX5_untell 19 = .ok (.iload_n 1, 1) := by decide +kernel
theorem dX5_untell_20 : decode cX5_untell 20 = .ok (.invokevirtual 130, 3) := by decide +kernel
theorem dX5_untell_23 : decode cX5_untell 23 = .ok (.astore_n 2, 1) := by decide +kernel
theorem dX5_untell_24 : decode cX5_untell 24 = .ok (.aload_n 2, 1) := by decide +kernel
theorem dX5_untell_25 : decode cX5_untell 25 = .ok (.invokevirtual 144, 3) := by decide +kernel
theorem dX5_untell_28 : decode cX5_untell 28 = .ok (.ifCond .eq 7, 3) := by decide +kernel
theorem dX5_untell_31 : decode cX5_untell 31 = .ok (.iconst 1, 1) := by decide +kernel
theorem dX5_untell_32 : decode cX5_untell 32 = .ok (.goto 4, 3) := by decide +kernel
theorem dX5_untell_35 : decode cX5_untell 35 = .ok (.iconst 0, 1) := by decide +kernel
theorem dX5_untell_36 : decode cX5_untell 36 = .ok (.istore_n 3, 1) := by decide +kernel
theorem dX5_untell_37 : decode cX5_untell 37 = .ok (.aload_n 2, 1) := by decide +kernel
theorem dX5_untell_38 : decode cX5_untell 38 = .ok (.invokevirtual 148, 3) := by decide +kernel
theorem dX5_untell_41 : decode cX5_untell 41 = .ok (.iload_n 3, 1) := by decide +kernel
theorem dX5_untell_42 : decode cX5_untell 42 = .ok (.ireturn, 1) := by decide +kernel
set_option maxRecDepth 20000 in
theorem ggX5_law_X5_isOutside : GoodIn wsX5_law wsX5_isOutside := goodIn_r _ [5] (by decide +kernel) (by decide +kernel)
set_option maxRecDepth 20000 in
theorem gX5_law_X5_isOutside : GoodIn wsX5_law (va_wsS RX5 56 yX5_isOutside wsX5_isOutside) := goodIn_app (goodIn_of _ (by decide +kernel)) ggX5_law_X5_isOutside
set_option maxRecDepth 20000 in
theorem ggX5_law_X5_refuse : GoodIn wsX5_law wsX5_refuse := goodIn_r _ [9, 10, 11, 43, 44, 45, 46, 47, 48, 49, 50, 51] (by decide +kernel) (by decide +kernel)
set_option maxRecDepth 20000 in
theorem gX5_law_X5_refuse : GoodIn wsX5_law (wsV RX5 60 RX5 yX5_refuse wsX5_refuse) := goodIn_app (goodIn_of _ (by decide +kernel)) ggX5_law_X5_refuse
set_option maxRecDepth 20000 in
theorem ggX5_law_X3_countedOf : GoodIn wsX5_law wsX3_countedOf := goodIn_r _ [15, 16, 17, 18, 19, 20, 21, 22, 23, 24, 25, 26, 27, 28, 29, 30, 4, 31, 32, 33, 34, 35, 36, 37, 38, 52, 53, 54, 55, 56, 57, 58, 59, 60, 61, 62, 63, 64, 65, 66, 67, 68, 69, 70] (by decide +kernel) (by decide +kernel)
set_option maxRecDepth 20000 in
theorem gX5_law_X3_countedOf_n151 : GoodIn wsX5_law (wsX3_countedOf) := ggX5_law_X3_countedOf
set_option maxRecDepth 20000 in
theorem ggX5_law_X3_worthOf : GoodIn wsX5_law wsX3_worthOf := goodIn_r _ [41, 42, 17, 18, 19, 20, 21, 22, 23, 24, 25, 26, 27, 28, 29, 30, 4, 31, 32, 33, 34, 35, 36, 37, 38, 52, 53, 54, 55, 56, 57, 58, 59, 60, 61, 62, 63, 64, 65, 66, 67, 68, 69, 70] (by decide +kernel) (by decide +kernel)
set_option maxRecDepth 20000 in
theorem gX5_law_X3_worthOf_n155 : GoodIn wsX5_law (wsX3_worthOf) := ggX5_law_X3_worthOf
theorem dX5_law_0 : decode cX5_law 0 = .ok (.iload_n 1, 1) := by decide +kernel
theorem dX5_law_1 : decode cX5_law 1 = .ok (.iconst 0, 1) := by decide +kernel
theorem dX5_law_2 : decode cX5_law 2 = .ok (.iconst 1, 1) := by decide +kernel
theorem dX5_law_3 : decode cX5_law 3 = .ok (.invokestatic 56, 3) := by decide +kernel
theorem dX5_law_6 : decode cX5_law 6 = .ok (.ifCond .eq 9, 3) := by decide +kernel
theorem dX5_law_9 : decode cX5_law 9 = .ok (.aload_n 0, 1) := by decide +kernel
theorem dX5_law_10 : decode cX5_law 10 = .ok (.iconst 1, 1) := by decide +kernel
theorem dX5_law_11 : decode cX5_law 11 = .ok (.invokevirtual 60, 3) := by decide +kernel
theorem dX5_law_14 : decode cX5_law 14 = .ok (.ireturn, 1) := by decide +kernel
theorem dX5_law_15 : decode cX5_law 15 = .ok (.iload_n 1, 1) := by decide +kernel
theorem dX5_law_16 : decode cX5_law 16 = .ok (.ifCond .ne 17, 3) := by decide +kernel
theorem dX5_law_19 : decode cX5_law 19 = .ok (.aload_n 0, 1) := by decide +kernel
theorem dX5_law_20 : decode cX5_law 20 = .ok (.getfield 12, 3) := by decide +kernel
theorem dX5_law_23 : decode cX5_law 23 = .ok (.iload_n 2, 1) := by decide +kernel
theorem dX5_law_24 : decode cX5_law 24 = .ok (.iload_n 3, 1) := by decide +kernel
theorem dX5_law_25 : decode cX5_law 25 = .ok (.iload 4, 2) := by decide +kernel
theorem dX5_law_27 : decode cX5_law 27 = .ok (.invokevirtual 151, 3) := by decide +kernel
theorem dX5_law_30 : decode cX5_law 30 = .ok (.goto 14, 3) := by decide +kernel
theorem dX5_law_33 : decode cX5_law 33 = .ok (.aload_n 0, 1) := by decide +kernel
theorem dX5_law_34 : decode cX5_law 34 = .ok (.getfield 12, 3) := by decide +kernel
theorem dX5_law_37 : decode cX5_law 37 = .ok (.iload_n 2, 1) := by decide +kernel
theorem dX5_law_38 : decode cX5_law 38 = .ok (.iload_n 3, 1) := by decide +kernel
theorem dX5_law_39 : decode cX5_law 39 = .ok (.iload 4, 2) := by decide +kernel
theorem dX5_law_41 : decode cX5_law 41 = .ok (.invokevirtual 155, 3) := by decide +kernel
theorem dX5_law_44 : decode cX5_law 44 = .ok (.ireturn, 1) := by decide +kernel
set_option maxRecDepth 20000 in
theorem ggX5_minutes_X5_isOutside : GoodIn wsX5_minutes wsX5_isOutside := goodIn_r _ [5] (by decide +kernel) (by decide +kernel)
set_option maxRecDepth 20000 in
theorem gX5_minutes_X5_isOutside : GoodIn wsX5_minutes (va_wsS RX5 56 yX5_isOutside wsX5_isOutside) := goodIn_app (goodIn_of _ (by decide +kernel)) ggX5_minutes_X5_isOutside
set_option maxRecDepth 20000 in
theorem ggX5_minutes_X5_refuse : GoodIn wsX5_minutes wsX5_refuse := goodIn_r _ [9, 10, 11, 81, 82, 83, 84, 85, 86, 87, 88, 89] (by decide +kernel) (by decide +kernel)
set_option maxRecDepth 20000 in
theorem gX5_minutes_X5_refuse : GoodIn wsX5_minutes (wsV RX5 60 RX5 yX5_refuse wsX5_refuse) := goodIn_app (goodIn_of _ (by decide +kernel)) ggX5_minutes_X5_refuse
set_option maxRecDepth 20000 in
theorem ggX5_minutes_X3_pass : GoodIn wsX5_minutes wsX3_pass := goodIn_r _ [15, 16, 17, 18, 19, 20, 13, 21, 22, 23, 24, 25, 26, 27, 28, 29, 30, 4, 31, 32, 33, 34, 35, 36, 37, 38, 39, 40, 41, 42, 43, 44, 45, 46, 47, 48, 49, 50, 51, 52, 53, 54, 55, 56, 57, 58, 59, 60, 61, 62, 63, 64, 65, 66, 67, 68, 69, 70, 71, 72, 73, 74, 75, 76, 77, 90, 91, 92, 93, 94, 95, 96, 97, 98, 99, 100, 101, 102, 103, 104, 105, 106, 107, 108] (by decide +kernel) (by decide +kernel)
set_option maxRecDepth 20000 in
theorem gX5_minutes_X3_pass_n161 : GoodIn wsX5_minutes (wsX3_pass) := ggX5_minutes_X3_pass
set_option maxRecDepth 20000 in
theorem ggX5_minutes_X3_pairs : GoodIn wsX5_minutes wsX3_pairs := goodIn_r _ [80, 16, 22, 90, 91, 92, 93, 94, 95, 96, 97, 98, 99, 100, 101, 102, 103, 104, 105] (by decide +kernel) (by decide +kernel)
set_option maxRecDepth 20000 in
theorem gX5_minutes_X3_pairs_n164 : GoodIn wsX5_minutes (wsX3_pairs) := ggX5_minutes_X3_pairs
theorem dX5_minutes_0 : decode cX5_minutes 0 = .ok (.iload_n 1, 1) := by decide +kernel
theorem dX5_minutes_1 : decode cX5_minutes 1 = .ok (.iconst 1, 1) := by decide +kernel
theorem dX5_minutes_2 : decode cX5_minutes 2 = .ok (.sipush 200, 3) := by decide +kernel
theorem dX5_minutes_5 : decode cX5_minutes 5 = .ok (.invokestatic 56, 3) := by decide +kernel
theorem dX5_minutes_8 : decode cX5_minutes 8 = .ok (.ifCond .eq 9, 3) := by decide +kernel
theorem dX5_minutes_11 : decode cX5_minutes 11 = .ok (.aload_n 0, 1) := by decide +kernel
theorem dX5_minutes_12 : decode cX5_minutes 12 = .ok (.iconst 1, 1) := by decide +kernel
theorem dX5_minutes_13 : decode cX5_minutes 13 = .ok (.invokevirtual 60, 3) := by decide +kernel
theorem dX5_minutes_16 : decode cX5_minutes 16 = .ok (.ireturn, 1) := by decide +kernel
theorem dX5_minutes_17 : decode cX5_minutes 17 = .ok (.aload_n 0, 1) := by decide +kernel
theorem dX5_minutes_18 : decode cX5_minutes 18 = .ok (.getfield 12, 3) := by decide +kernel
theorem dX5_minutes_21 : decode cX5_minutes 21 = .ok (.getfield 158, 3) := by decide +kernel
theorem dX5_minutes_24 : decode cX5_minutes 24 = .ok (.iload_n 1, 1) := by decide +kernel
theorem dX5_minutes_25 : decode cX5_minutes 25 = .ok (.iadd, 1) := by decide +kernel
theorem dX5_minutes_26 : decode cX5_minutes 26 = .ok (.sipush 9999, 3) := by decide +kernel
theorem dX5_minutes_29 : decode cX5_minutes 29 = .ok (.if_icmp .le 9, 3) := by decide +kernel
theorem dX5_minutes_32 : decode cX5_minutes 32 = .ok (.aload_n 0, 1) := by decide +kernel
theorem dX5_minutes_33 : decode cX5_minutes 33 = .ok (.iconst 3, 1) := by decide +kernel
theorem dX5_minutes_34 : decode cX5_minutes 34 = .ok (.invokevirtual 60, 3) := by decide +kernel
theorem dX5_minutes_37 : decode cX5_minutes 37 = .ok (.ireturn, 1) := by decide +kernel
theorem dX5_minutes_38 : decode cX5_minutes 38 = .ok (.iconst 0, 1) := by decide +kernel
theorem dX5_minutes_39 : decode cX5_minutes 39 = .ok (.istore_n 2, 1) := by decide +kernel
theorem dX5_minutes_40 : decode cX5_minutes 40 = .ok (.iload_n 2, 1) := by decide +kernel
theorem dX5_minutes_41 : decode cX5_minutes 41 = .ok (.iload_n 1, 1) := by decide +kernel
theorem dX5_minutes_42 : decode cX5_minutes 42 = .ok (.if_icmp .ge 16, 3) := by decide +kernel
theorem dX5_minutes_45 : decode cX5_minutes 45 = .ok (.aload_n 0, 1) := by decide +kernel
theorem dX5_minutes_46 : decode cX5_minutes 46 = .ok (.getfield 12, 3) := by decide +kernel
theorem dX5_minutes_49 : decode cX5_minutes 49 = .ok (.invokevirtual 161, 3) := by decide +kernel
theorem dX5_minutes_52 : decode cX5_minutes 52 = .ok (.iinc 2 1, 3) := by decide +kernel
theorem dX5_minutes_55 : decode cX5_minutes 55 = .ok (.goto (-15), 3) := by decide +kernel
theorem dX5_minutes_58 : decode cX5_minutes 58 = .ok (.aload_n 0, 1) := by decide +kernel
theorem dX5_minutes_59 : decode cX5_minutes 59 = .ok (.getfield 12, 3) := by decide +kernel
theorem dX5_minutes_62 : decode cX5_minutes 62 = .ok (.invokevirtual 164, 3) := by decide +kernel
theorem dX5_minutes_65 : decode cX5_minutes 65 = .ok (.ireturn, 1) := by decide +kernel
set_option maxRecDepth 20000 in
theorem ggX5_loose_X5_isOutside : GoodIn wsX5_loose wsX5_isOutside := goodIn_r _ [5] (by decide +kernel) (by decide +kernel)
set_option maxRecDepth 20000 in
theorem gX5_loose_X5_isOutside : GoodIn wsX5_loose (va_wsS RX5 56 yX5_isOutside wsX5_isOutside) := goodIn_app (goodIn_of _ (by decide +kernel)) ggX5_loose_X5_isOutside
set_option maxRecDepth 20000 in
theorem ggX5_loose_X5_refuse : GoodIn wsX5_loose wsX5_refuse := goodIn_r _ [9, 10, 11, 90, 91, 92, 93, 94, 95, 96, 97, 98] (by decide +kernel) (by decide +kernel)
set_option maxRecDepth 20000 in
theorem gX5_loose_X5_refuse : GoodIn wsX5_loose (wsV RX5 60 RX5 yX5_refuse wsX5_refuse) := goodIn_app (goodIn_of _ (by decide +kernel)) ggX5_loose_X5_refuse
set_option maxRecDepth 20000 in
theorem ggX5_loose_X3_drift : GoodIn wsX5_loose wsX3_drift := goodIn_r _ [15, 16, 17, 18, 19, 20, 21, 13, 22, 23, 24, 99, 100, 101, 102, 103, 104, 105, 106, 107, 108, 109, 110, 111, 112, 113, 114] (by decide +kernel) (by decide +kernel)
set_option maxRecDepth 20000 in
theorem gX5_loose_X3_drift_n168 : GoodIn wsX5_loose (wsX3_drift) := ggX5_loose_X3_drift
set_option maxRecDepth 20000 in
theorem ggX5_loose_X3_pass : GoodIn wsX5_loose wsX3_pass := goodIn_r _ [27, 16, 28, 29, 30, 31, 13, 32, 18, 33, 34, 35, 36, 37, 38, 39, 40, 4, 41, 42, 43, 44, 45, 46, 47, 48, 49, 50, 51, 52, 53, 54, 55, 56, 57, 58, 59, 60, 61, 62, 63, 64, 65, 66, 67, 68, 69, 70, 71, 72, 73, 74, 75, 76, 77, 78, 79, 80, 81, 82, 17, 83, 84, 85, 86, 99, 100, 101, 102, 103, 104, 105, 106, 107, 108, 109, 110, 111, 112, 113, 114, 115, 116, 117] (by decide +kernel) (by decide +kernel)
set_option maxRecDepth 20000 in
theorem gX5_loose_X3_pass_n161 : GoodIn wsX5_loose (wsX3_pass) := ggX5_loose_X3_pass
set_option maxRecDepth 20000 in
theorem ggX5_loose_X3_pairs : GoodIn wsX5_loose wsX3_pairs := goodIn_r _ [89, 16, 18, 99, 100, 101, 102, 103, 104, 105, 106, 107, 108, 109, 110, 111, 112, 113, 114] (by decide +kernel) (by decide +kernel)
set_option maxRecDepth 20000 in
theorem gX5_loose_X3_pairs_n164 : GoodIn wsX5_loose (wsX3_pairs) := ggX5_loose_X3_pairs
theorem dX5_loose_0 : decode cX5_loose 0 = .ok (.iload_n 1, 1) := by decide +kernel
theorem dX5_loose_1 : decode cX5_loose 1 = .ok (.iconst 1, 1) := by decide +kernel
theorem dX5_loose_2 : decode cX5_loose 2 = .ok (.bipush 40, 2) := by decide +kernel
theorem dX5_loose_4 : decode cX5_loose 4 = .ok (.invokestatic 56, 3) := by decide +kernel
theorem dX5_loose_7 : decode cX5_loose 7 = .ok (.ifCond .eq 9, 3) := by decide +kernel
theorem dX5_loose_10 : decode cX5_loose 10 = .ok (.aload_n 0, 1) := by decide +kernel
theorem dX5_loose_11 : decode cX5_loose 11 = .ok (.iconst 1, 1) := by decide +kernel
theorem dX5_loose_12 : decode cX5_loose 12 = .ok (.invokevirtual 60, 3) := by decide +kernel
theorem dX5_loose_15 : decode cX5_loose 15 = .ok (.ireturn, 1) := by decide +kernel
theorem dX5_loose_16 : decode cX5_loose 16 = .ok (.aload_n 0, 1) := by decide +kernel
theorem dX5_loose_17 : decode cX5_loose 17 = .ok (.getfield 12, 3) := by decide +kernel
theorem dX5_loose_20 : decode cX5_loose 20 = .ok (.getfield 158, 3) := by decide +kernel
theorem dX5_loose_23 : decode cX5_loose 23 = .ok (.iload_n 1, 1) := by decide +kernel
theorem dX5_loose_24 : decode cX5_loose 24 = .ok (.iadd, 1) := by decide +kernel
theorem dX5_loose_25 : decode cX5_loose 25 = .ok (.sipush 9999, 3) := by decide +kernel
theorem dX5_loose_28 : decode cX5_loose 28 = .ok (.if_icmp .le 9, 3) := by decide +kernel
theorem dX5_loose_31 : decode cX5_loose 31 = .ok (.aload_n 0, 1) := by decide +kernel
theorem dX5_loose_32 : decode cX5_loose 32 = .ok (.iconst 3, 1) := by decide +kernel
theorem dX5_loose_33 : decode cX5_loose 33 = .ok (.invokevirtual 60, 3) := by decide +kernel
theorem dX5_loose_36 : decode cX5_loose 36 = .ok (.ireturn, 1) := by decide +kernel
theorem dX5_loose_37 : decode cX5_loose 37 = .ok (.iconst 0, 1) := by decide +kernel
theorem dX5_loose_38 : decode cX5_loose 38 = .ok (.istore_n 2, 1) := by decide +kernel
theorem dX5_loose_39 : decode cX5_loose 39 = .ok (.iload_n 2, 1) := by decide +kernel
theorem dX5_loose_40 : decode cX5_loose 40 = .ok (.iload_n 1, 1) := by decide +kernel
theorem dX5_loose_41 : decode cX5_loose 41 = .ok (.if_icmp .ge 23, 3) := by decide +kernel
theorem dX5_loose_44 : decode cX5_loose 44 = .ok (.aload_n 0, 1) := by decide +kernel
theorem dX5_loose_45 : decode cX5_loose 45 = .ok (.getfield 12, 3) := by decide +kernel
theorem dX5_loose_48 : decode cX5_loose 48 = .ok (.invokevirtual 168, 3) := by decide +kernel
theorem dX5_loose_51 : decode cX5_loose 51 = .ok (.aload_n 0, 1) := by decide +kernel
theorem dX5_loose_52 : decode cX5_loose 52 = .ok (.getfield 12, 3) := by decide +kernel
theorem dX5_loose_55 : decode cX5_loose 55 = .ok (.invokevirtual 161, 3) := by decide +kernel
theorem dX5_loose_58 : decode cX5_loose 58 = .ok (.iinc 2 1, 3) := by decide +kernel
theorem dX5_loose_61 : decode cX5_loose 61 = .ok (.goto (-22), 3) := by decide +kernel
theorem dX5_loose_64 : decode cX5_loose 64 = .ok (.aload_n 0, 1) := by decide +kernel
theorem dX5_loose_65 : decode cX5_loose 65 = .ok (.getfield 12, 3) := by decide +kernel
theorem dX5_loose_68 : decode cX5_loose 68 = .ok (.invokevirtual 164, 3) := by decide +kernel
theorem dX5_loose_71 : decode cX5_loose 71 = .ok (.ireturn, 1) := by decide +kernel
theorem dX5_seed_0 : decode cX5_seed 0 = .ok (.aload_n 0, 1) := by decide +kernel
theorem dX5_seed_1 : decode cX5_seed 1 = .ok (.getfield 12, 3) := by decide +kernel
theorem dX5_seed_4 : decode cX5_seed 4 = .ok (.getfield 171, 3) := by decide +kernel
theorem dX5_seed_7 : decode cX5_seed 7 = .ok (.istore_n 2, 1) := by decide +kernel
theorem dX5_seed_8 : decode cX5_seed 8 = .ok (.aload_n 0, 1) := by decide +kernel
theorem dX5_seed_9 : decode cX5_seed 9 = .ok (.getfield 12, 3) := by decide +kernel
theorem dX5_seed_12 : decode cX5_seed 12 = .ok (.iload_n 1, 1) := by decide +kernel
theorem dX5_seed_13 : decode cX5_seed 13 = .ok (.putfield 171, 3) := by decide +kernel
theorem dX5_seed_16 : decode cX5_seed 16 = .ok (.iload_n 2, 1) := by decide +kernel
theorem dX5_seed_17 : decode cX5_seed 17 = .ok (.ireturn, 1) := by decide +kernel
set_option maxRecDepth 20000 in
theorem ggX5_then_X5_isOutside : GoodIn wsX5_then wsX5_isOutside := goodIn_r _ [6] (by decide +kernel) (by decide +kernel)
set_option maxRecDepth 20000 in
theorem gX5_then_X5_isOutside : GoodIn wsX5_then (va_wsS RX5 56 yX5_isOutside wsX5_isOutside) := goodIn_app (goodIn_of _ (by decide +kernel)) ggX5_then_X5_isOutside
set_option maxRecDepth 20000 in
theorem ggX5_then_X3_hasClimber : GoodIn wsX5_then wsX3_hasClimber := goodIn_r _ [10, 11, 103, 104, 105, 106, 107, 108, 109, 110, 111, 112, 113, 114, 115, 116, 117, 118] (by decide +kernel) (by decide +kernel)
set_option maxRecDepth 20000 in
theorem gX5_then_X3_hasClimber_n91 : GoodIn wsX5_then (wsX3_hasClimber) := ggX5_then_X3_hasClimber
set_option maxRecDepth 20000 in
theorem ggX5_then_X5_refuse : GoodIn wsX5_then wsX5_refuse := goodIn_r _ [15, 16, 17, 94, 95, 96, 97, 98, 99, 100, 101, 102] (by decide +kernel) (by decide +kernel)
set_option maxRecDepth 20000 in
theorem gX5_then_X5_refuse : GoodIn wsX5_then (wsV RX5 60 RX5 yX5_refuse wsX5_refuse) := goodIn_app (goodIn_of _ (by decide +kernel)) ggX5_then_X5_refuse
set_option maxRecDepth 20000 in
theorem ggX5_then_X3_copyWalk : GoodIn wsX5_then wsX3_copyWalk := goodIn_r _ [20, 21, 22, 23, 24, 25, 26, 27, 28, 11, 29, 30, 31, 32, 33, 34, 35, 36, 37, 38, 39, 40, 41, 103, 104, 105, 106, 107, 108, 109, 110, 111, 112, 113, 114, 115, 116, 117, 118, 119, 120, 121] (by decide +kernel) (by decide +kernel)
set_option maxRecDepth 20000 in
theorem gX5_then_X3_copyWalk_n174 : GoodIn wsX5_then (wsX3_copyWalk) := ggX5_then_X3_copyWalk
set_option maxRecDepth 20000 in
theorem ggX5_then_X3_passFor : GoodIn wsX5_then wsX3_passFor := goodIn_r _ [44, 28, 45, 46, 47, 8, 48, 31, 32, 49, 50, 51, 52, 30, 29, 53, 5, 54, 55, 56, 57, 58, 27, 22, 59, 60, 61, 62, 33, 63, 36, 64, 65, 39, 66, 67, 68, 40, 69, 70, 71, 72, 73, 74, 75, 76, 77, 78, 79, 80, 81, 82, 83, 84, 85, 86, 87, 88, 89, 21, 90, 91, 92, 93, 103, 104, 105, 106, 107, 108, 109, 110, 111, 112, 113, 114, 115, 116, 117, 118, 119, 120, 121] (by decide +kernel) (by decide +kernel)
set_option maxRecDepth 20000 in
theorem gX5_then_X3_passFor_n178 : GoodIn wsX5_then (wsX3_passFor) := ggX5_then_X3_passFor
theorem dX5_then_0 : decode cX5_then 0 = .ok (.iload_n 1, 1) := by decide +kernel
theorem dX5_then_1 : decode cX5_then 1 = .ok (.iconst 0, 1) := by decide +kernel
theorem dX5_then_2 : decode cX5_then 2 = .ok (.sipush 200, 3) := by decide +kernel
theorem dX5_then_5 : decode cX5_then 5 = .ok (.invokestatic 56, 3) := by decide +kernel
theorem dX5_then_8 : decode cX5_then 8 = .ok (.ifCond .ne 23, 3) := by decide +kernel
theorem dX5_then_11 : decode cX5_then 11 = .ok (.aload_n 0, 1) := by decide +kernel
theorem dX5_then_12 : decode cX5_then 12 = .ok (.getfield 12, 3) := by decide +kernel
theorem dX5_then_15 : decode cX5_then 15 = .ok (.iload_n 2, 1) := by decide +kernel
theorem dX5_then_16 : decode cX5_then 16 = .ok (.invokevirtual 91, 3) := by decide +kernel
theorem dX5_then_19 : decode cX5_then 19 = .ok (.ifCond .eq 12, 3) := by decide +kernel
theorem dX5_then_22 : decode cX5_then 22 = .ok (.iload_n 3, 1) := by decide +kernel
theorem dX5_then_23 : decode cX5_then 23 = .ok (.iconst 0, 1) := by decide +kernel
theorem dX5_then_24 : decode cX5_then 24 = .ok (.iconst 1, 1) := by decide +kernel
theorem dX5_then_25 : decode cX5_then 25 = .ok (.invokestatic 56, 3) := by decide +kernel
theorem dX5_then_28 : decode cX5_then 28 = .ok (.ifCond .eq 9, 3) := by decide +kernel
theorem dX5_then_31 : decode cX5_then 31 = .ok (.aload_n 0, 1) := by decide +kernel
theorem dX5_then_32 : decode cX5_then 32 = .ok (.iconst 1, 1) := by decide +kernel
theorem dX5_then_33 : decode cX5_then 33 = .ok (.invokevirtual 60, 3) := by decide +kernel
theorem dX5_then_36 : decode cX5_then 36 = .ok (.ireturn, 1) := by decide +kernel
theorem dX5_then_37 : decode cX5_then 37 = .ok (.aload_n 0, 1) := by decide +kernel
theorem dX5_then_38 : decode cX5_then 38 = .ok (.getfield 19, 3) := by decide +kernel
theorem dX5_then_41 : decode cX5_then 41 = .ok (.aload_n 0, 1) := by decide +kernel
theorem dX5_then_42 : decode cX5_then 42 = .ok (.getfield 12, 3) := by decide +kernel
theorem dX5_then_45 : decode cX5_then 45 = .ok (.invokevirtual 174, 3) := by decide +kernel
theorem dX5_then_48 : decode cX5_then 48 = .ok (.iconst 0, 1) := by decide +kernel
theorem dX5_then_49 : decode cX5_then 49 = .ok (.istore 4, 2) := by decide +kernel
theorem dX5_then_51 : decode cX5_then 51 = .ok (.iload 4, 2) := by decide +kernel
theorem dX5_then_53 : decode cX5_then 53 = .ok (.iload_n 1, 1) := by decide +kernel
theorem dX5_then_54 : decode cX5_then 54 = .ok (.if_icmp .ge 17, 3) := by decide +kernel
theorem dX5_then_57 : decode cX5_then 57 = .ok (.aload_n 0, 1) := by decide +kernel
theorem dX5_then_58 : decode cX5_then 58 = .ok (.getfield 19, 3) := by decide +kernel
theorem dX5_then_61 : decode cX5_then 61 = .ok (.iload_n 2, 1) := by decide +kernel
theorem dX5_then_62 : decode cX5_then 62 = .ok (.invokevirtual 178, 3) := by decide +kernel
theorem dX5_then_65 : decode cX5_then 65 = .ok (.iinc 4 1, 3) := by decide +kernel
theorem dX5_then_68 : decode cX5_then 68 = .ok (.goto (-17), 3) := by decide +kernel
theorem dX5_then_71 : decode cX5_then 71 = .ok (.iload_n 3, 1) := by decide +kernel
theorem dX5_then_72 : decode cX5_then 72 = .ok (.ifCond .ne 15, 3) := by decide +kernel
theorem dX5_then_75 : decode cX5_then 75 = .ok (.aload_n 0, 1) := by decide +kernel
theorem dX5_then_76 : decode cX5_then 76 = .ok (.getfield 19, 3) := by decide +kernel
theorem dX5_then_79 : decode cX5_then 79 = .ok (.getfield 100, 3) := by decide +kernel
theorem dX5_then_82 : decode cX5_then 82 = .ok (.iload_n 2, 1) := by decide +kernel
theorem dX5_then_83 : decode cX5_then 83 = .ok (.iaload, 1) := by decide +kernel
theorem dX5_then_84 : decode cX5_then 84 = .ok (.goto 12, 3) := by decide +kernel
theorem dX5_then_87 : decode cX5_then 87 = .ok (.aload_n 0, 1) := by decide +kernel
theorem dX5_then_88 : decode cX5_then 88 = .ok (.getfield 19, 3) := by decide +kernel
theorem dX5_then_91 : decode cX5_then 91 = .ok (.getfield 103, 3) := by decide +kernel
theorem dX5_then_94 : decode cX5_then 94 = .ok (.iload_n 2, 1) := by decide +kernel
theorem dX5_then_95 : decode cX5_then 95 = .ok (.iaload, 1) := by decide +kernel
theorem dX5_then_96 : decode cX5_then 96 = .ok (.ireturn, 1) := by decide +kernel
set_option maxRecDepth 20000 in
theorem ggX5_meet_X5_isPair : GoodIn wsX5_meet wsX5_isPair := goodIn_r _ [7, 2, 8, 9, 10, 11, 12, 64, 65, 66, 67, 68, 69, 70, 71, 72, 73, 74, 75, 76, 77, 78, 79, 80, 81, 82, 83, 84, 85, 86, 87, 88] (by decide +kernel) (by decide +kernel)
set_option maxRecDepth 20000 in
theorem gX5_meet_X5_isPair : GoodIn wsX5_meet (wsV RX5 181 RX5 yX5_isPair wsX5_isPair) := goodIn_app (goodIn_of _ (by decide +kernel)) ggX5_meet_X5_isPair
set_option maxRecDepth 20000 in
theorem ggX5_meet_X5_refuse : GoodIn wsX5_meet wsX5_refuse := goodIn_r _ [16, 17, 18, 64, 65, 66, 67, 68, 69, 70, 71, 72] (by decide +kernel) (by decide +kernel)
set_option maxRecDepth 20000 in
theorem gX5_meet_X5_refuse : GoodIn wsX5_meet (wsV RX5 60 RX5 yX5_refuse wsX5_refuse) := goodIn_app (goodIn_of _ (by decide +kernel)) ggX5_meet_X5_refuse
set_option maxRecDepth 20000 in
theorem ggX5_meet_X3_copyWalk : GoodIn wsX5_meet wsX3_copyWalk := goodIn_r _ [21, 22, 23, 24, 25, 26, 27, 28, 29, 12, 30, 31, 32, 33, 34, 35, 36, 37, 38, 39, 40, 41, 42, 73, 74, 75, 76, 77, 78, 79, 80, 81, 82, 83, 84, 85, 86, 87, 88, 89, 90, 91] (by decide +kernel) (by decide +kernel)
set_option maxRecDepth 20000 in
theorem gX5_meet_X3_copyWalk_n174 : GoodIn wsX5_meet (wsX3_copyWalk) := ggX5_meet_X3_copyWalk
set_option maxRecDepth 20000 in
theorem ggX5_meet_X3_meetingBy : GoodIn wsX5_meet wsX3_meetingBy := goodIn_r _ [45, 32, 46, 47, 48, 9, 49, 12, 29, 50, 51, 52, 53, 31, 30, 54, 6, 55, 56, 57, 58, 59, 22, 60, 61, 62, 63, 73, 74, 75, 76, 77, 78, 79, 80, 81, 82, 83, 84, 85, 86, 87, 88] (by decide +kernel) (by decide +kernel)
set_option maxRecDepth 20000 in
theorem gX5_meet_X3_meetingBy_n184 : GoodIn wsX5_meet (wsX3_meetingBy) := ggX5_meet_X3_meetingBy
theorem dX5_meet_0 : decode cX5_meet 0 = .ok (.aload_n 0, 1) := by decide +kernel
theorem dX5_meet_1 : decode cX5_meet 1 = .ok (.iload_n 1, 1) := by decide +kernel
theorem dX5_meet_2 : decode cX5_meet 2 = .ok (.iload_n 2, 1) := by decide +kernel
theorem dX5_meet_3 : decode cX5_meet 3 = .ok (.invokevirtual 181, 3) := by decide +kernel
theorem dX5_meet_6 : decode cX5_meet 6 = .ok (.ifCond .ne 9, 3) := by decide +kernel
theorem dX5_meet_9 : decode cX5_meet 9 = .ok (.aload_n 0, 1) := by decide +kernel
theorem dX5_meet_10 : decode cX5_meet 10 = .ok (.iconst 1, 1) := by decide +kernel
theorem dX5_meet_11 : decode cX5_meet 11 = .ok (.invokevirtual 60, 3) := by decide +kernel
theorem dX5_meet_14 : decode cX5_meet 14 = .ok (.ireturn, 1) := by decide +kernel
theorem dX5_meet_15 : decode cX5_meet 15 = .ok (.aload_n 0, 1) := by decide +kernel
theorem dX5_meet_16 : decode cX5_meet 16 = .ok (.getfield 19, 3) := by decide +kernel
theorem dX5_meet_19 : decode cX5_meet 19 = .ok (.aload_n 0, 1) := by decide +kernel
theorem dX5_meet_20 : decode cX5_meet 20 = .ok (.getfield 12, 3) := by decide +kernel
theorem dX5_meet_23 : decode cX5_meet 23 = .ok (.invokevirtual 174, 3) := by decide +kernel
theorem dX5_meet_26 : decode cX5_meet 26 = .ok (.aload_n 0, 1) := by decide +kernel
theorem dX5_meet_27 : decode cX5_meet 27 = .ok (.getfield 19, 3) := by decide +kernel
theorem dX5_meet_30 : decode cX5_meet 30 = .ok (.iload_n 1, 1) := by decide +kernel
theorem dX5_meet_31 : decode cX5_meet 31 = .ok (.iload_n 2, 1) := by decide +kernel
theorem dX5_meet_32 : decode cX5_meet 32 = .ok (.sipush 200, 3) := by decide +kernel
theorem dX5_meet_35 : decode cX5_meet 35 = .ok (.invokevirtual 184, 3) := by decide +kernel
theorem dX5_meet_38 : decode cX5_meet 38 = .ok (.istore_n 3, 1) := by decide +kernel
theorem dX5_meet_39 : decode cX5_meet 39 = .ok (.iload_n 3, 1) := by decide +kernel
theorem dX5_meet_40 : decode cX5_meet 40 = .ok (.ifCond .ge 11, 3) := by decide +kernel
theorem dX5_meet_43 : decode cX5_meet 43 = .ok (.aload_n 0, 1) := by decide +kernel
theorem dX5_meet_44 : decode cX5_meet 44 = .ok (.iconst 2, 1) := by decide +kernel
theorem dX5_meet_45 : decode cX5_meet 45 = .ok (.invokevirtual 60, 3) := by decide +kernel
theorem dX5_meet_48 : decode cX5_meet 48 = .ok (.goto 4, 3) := by decide +kernel
theorem dX5_meet_51 : decode cX5_meet 51 = .ok (.iload_n 3, 1) := by decide +kernel
theorem dX5_meet_52 : decode cX5_meet 52 = .ok (.ireturn, 1) := by decide +kernel
set_option maxRecDepth 20000 in
theorem ggX5_lap_X3_hasClimber : GoodIn wsX5_lap wsX3_hasClimber := goodIn_r _ [6, 7, 103, 104, 105, 106, 107, 108, 109, 110, 111, 112, 113, 114, 115, 116, 117, 118] (by decide +kernel) (by decide +kernel)
set_option maxRecDepth 20000 in
theorem gX5_lap_X3_hasClimber_n91 : GoodIn wsX5_lap (wsX3_hasClimber) := ggX5_lap_X3_hasClimber
set_option maxRecDepth 20000 in
theorem ggX5_lap_X5_isOutside : GoodIn wsX5_lap wsX5_isOutside := goodIn_r _ [11] (by decide +kernel) (by decide +kernel)
set_option maxRecDepth 20000 in
theorem gX5_lap_X5_isOutside : GoodIn wsX5_lap (va_wsS RX5 56 yX5_isOutside wsX5_isOutside) := goodIn_app (goodIn_of _ (by decide +kernel)) ggX5_lap_X5_isOutside
set_option maxRecDepth 20000 in
theorem ggX5_lap_X5_refuse : GoodIn wsX5_lap wsX5_refuse := goodIn_r _ [15, 16, 17, 94, 95, 96, 97, 98, 99, 100, 101, 102] (by decide +kernel) (by decide +kernel)
set_option maxRecDepth 20000 in
theorem gX5_lap_X5_refuse : GoodIn wsX5_lap (wsV RX5 60 RX5 yX5_refuse wsX5_refuse) := goodIn_app (goodIn_of _ (by decide +kernel)) ggX5_lap_X5_refuse
set_option maxRecDepth 20000 in
theorem ggX5_lap_X3_copyWalk : GoodIn wsX5_lap wsX3_copyWalk := goodIn_r _ [20, 21, 22, 23, 24, 25, 26, 27, 28, 7, 29, 30, 31, 32, 33, 34, 35, 36, 37, 38, 39, 40, 41, 103, 104, 105, 106, 107, 108, 109, 110, 111, 112, 113, 114, 115, 116, 117, 118, 119, 120, 121] (by decide +kernel) (by decide +kernel)
set_option maxRecDepth 20000 in
theorem gX5_lap_X3_copyWalk_n174 : GoodIn wsX5_lap (wsX3_copyWalk) := ggX5_lap_X3_copyWalk
set_option maxRecDepth 20000 in
theorem ggX5_lap_X3_passFor : GoodIn wsX5_lap wsX3_passFor := goodIn_r _ [44, 28, 45, 46, 47, 4, 48, 31, 32, 49, 50, 51, 52, 30, 29, 53, 10, 54, 55, 56, 57, 58, 27, 22, 59, 60, 61, 62, 33, 63, 36, 64, 65, 39, 66, 67, 68, 40, 69, 70, 71, 72, 73, 74, 75, 76, 77, 78, 79, 80, 81, 82, 83, 84, 85, 86, 87, 88, 89, 21, 90, 91, 92, 93, 103, 104, 105, 106, 107, 108, 109, 110, 111, 112, 113, 114, 115, 116, 117, 118, 119, 120, 121] (by decide +kernel) (by decide +kernel)
set_option maxRecDepth 20000 in
theorem gX5_lap_X3_passFor_n178 : GoodIn wsX5_lap (wsX3_passFor) := ggX5_lap_X3_passFor
theorem dX5_lap_0 : decode cX5_lap 0 = .ok (.aload_n 0, 1) := by decide +kernel
theorem dX5_lap_1 : decode cX5_lap 1 = .ok (.getfield 12, 3) := by decide +kernel
theorem dX5_lap_4 : decode cX5_lap 4 = .ok (.iload_n 1, 1) := by decide +kernel
theorem dX5_lap_5 : decode cX5_lap 5 = .ok (.invokevirtual 91, 3) := by decide +kernel
theorem dX5_lap_8 : decode cX5_lap 8 = .ok (.ifCond .eq 12, 3) := by decide +kernel
theorem dX5_lap_11 : decode cX5_lap 11 = .ok (.iload_n 2, 1) := by decide +kernel
theorem dX5_lap_12 : decode cX5_lap 12 = .ok (.iconst 0, 1) := by decide +kernel
theorem dX5_lap_13 : decode cX5_lap 13 = .ok (.iconst 1, 1) := by decide +kernel
theorem dX5_lap_14 : decode cX5_lap 14 = .ok (.invokestatic 56, 3) := by decide +kernel
theorem dX5_lap_17 : decode cX5_lap 17 = .ok (.ifCond .eq 9, 3) := by decide +kernel
theorem dX5_lap_20 : decode cX5_lap 20 = .ok (.aload_n 0, 1) := by decide +kernel
theorem dX5_lap_21 : decode cX5_lap 21 = .ok (.iconst 1, 1) := by decide +kernel
theorem dX5_lap_22 : decode cX5_lap 22 = .ok (.invokevirtual 60, 3) := by decide +kernel
theorem dX5_lap_25 : decode cX5_lap 25 = .ok (.ireturn, 1) := by decide +kernel
theorem dX5_lap_26 : decode cX5_lap 26 = .ok (.aload_n 0, 1) := by decide +kernel
theorem dX5_lap_27 : decode cX5_lap 27 = .ok (.getfield 19, 3) := by decide +kernel
theorem dX5_lap_30 : decode cX5_lap 30 = .ok (.aload_n 0, 1) := by decide +kernel
theorem dX5_lap_31 : decode cX5_lap 31 = .ok (.getfield 12, 3) := by decide +kernel
theorem dX5_lap_34 : decode cX5_lap 34 = .ok (.invokevirtual 174, 3) := by decide +kernel
theorem dX5_lap_37 : decode cX5_lap 37 = .ok (.iconst 1, 1) := by decide +kernel
theorem dX5_lap_38 : decode cX5_lap 38 = .ok (.istore_n 3, 1) := by decide +kernel
theorem dX5_lap_39 : decode cX5_lap 39 = .ok (.iload_n 3, 1) := by decide +kernel
theorem dX5_lap_40 : decode cX5_lap 40 = .ok (.sipush 200, 3) := by decide +kernel
theorem dX5_lap_43 : decode cX5_lap 43 = .ok (.if_icmp .gt 66, 3) := by decide +kernel
theorem dX5_lap_46 : decode cX5_lap 46 = .ok (.aload_n 0, 1) := by decide +kernel
theorem dX5_lap_47 : decode cX5_lap 47 = .ok (.getfield 19, 3) := by decide +kernel
theorem dX5_lap_50 : decode cX5_lap 50 = .ok (.iload_n 1, 1) := by decide +kernel
theorem dX5_lap_51 : decode cX5_lap 51 = .ok (.invokevirtual 178, 3) := by decide +kernel
theorem dX5_lap_54 : decode cX5_lap 54 = .ok (.aload_n 0, 1) := by decide +kernel
theorem dX5_lap_55 : decode cX5_lap 55 = .ok (.getfield 19, 3) := by decide +kernel
theorem dX5_lap_58 : decode cX5_lap 58 = .ok (.getfield 100, 3) := by decide +kernel
theorem dX5_lap_61 : decode cX5_lap 61 = .ok (.iload_n 1, 1) := by decide +kernel
theorem dX5_lap_62 : decode cX5_lap 62 = .ok (.iaload, 1) := by decide +kernel
theorem dX5_lap_63 : decode cX5_lap 63 = .ok (.aload_n 0, 1) := by decide +kernel
theorem dX5_lap_64 : decode cX5_lap 64 = .ok (.getfield 12, 3) := by decide +kernel
theorem dX5_lap_67 : decode cX5_lap 67 = .ok (.getfield 100, 3) := by decide +kernel
theorem dX5_lap_70 : decode cX5_lap 70 = .ok (.iload_n 1, 1) := by decide +kernel
theorem dX5_lap_71 : decode cX5_lap 71 = .ok (.iaload, 1) := by decide +kernel
theorem dX5_lap_72 : decode cX5_lap 72 = .ok (.if_icmp .ne 31, 3) := by decide +kernel
theorem dX5_lap_75 : decode cX5_lap 75 = .ok (.iload_n 2, 1) := by decide +kernel
theorem dX5_lap_76 : decode cX5_lap 76 = .ok (.ifCond .ne 7, 3) := by decide +kernel
theorem dX5_lap_79 : decode cX5_lap 79 = .ok (.iload_n 3, 1) := by decide +kernel
theorem dX5_lap_80 : decode cX5_lap 80 = .ok (.goto 22, 3) := by decide +kernel
theorem dX5_lap_83 : decode cX5_lap 83 = .ok (.aload_n 0, 1) := by decide +kernel
theorem dX5_lap_84 : decode cX5_lap 84 = .ok (.getfield 19, 3) := by decide +kernel
theorem dX5_lap_87 : decode cX5_lap 87 = .ok (.getfield 103, 3) := by decide +kernel
theorem dX5_lap_90 : decode cX5_lap 90 = .ok (.iload_n 1, 1) := by decide +kernel
theorem dX5_lap_91 : decode cX5_lap 91 = .ok (.iaload, 1) := by decide +kernel
theorem dX5_lap_92 : decode cX5_lap 92 = .ok (.aload_n 0, 1) := by decide +kernel
theorem dX5_lap_93 : decode cX5_lap 93 = .ok (.getfield 12, 3) := by decide +kernel
theorem dX5_lap_96 : decode cX5_lap 96 = .ok (.getfield 103, 3) := by decide +kernel
theorem dX5_lap_99 : decode cX5_lap 99 = .ok (.iload_n 1, 1) := by decide +kernel
theorem dX5_lap_100 : decode cX5_lap 100 = .ok (.iaload, 1) := by decide +kernel
theorem dX5_lap_101 : decode cX5_lap 101 = .ok (.isub, 1) := by decide +kernel
theorem dX5_lap_102 : decode cX5_lap 102 = .ok (.ireturn, 1) := by decide +kernel
theorem dX5_lap_103 : decode cX5_lap 103 = .ok (.iinc 3 1, 3) := by decide +kernel
theorem dX5_lap_106 : decode cX5_lap 106 = .ok (.goto (-67), 3) := by decide +kernel
theorem dX5_lap_109 : decode cX5_lap 109 = .ok (.aload_n 0, 1) := by decide +kernel
theorem dX5_lap_110 : decode cX5_lap 110 = .ok (.iconst 2, 1) := by decide +kernel
theorem dX5_lap_111 : decode cX5_lap 111 = .ok (.invokevirtual 60, 3) := by decide +kernel
theorem dX5_lap_114 : decode cX5_lap 114 = .ok (.ireturn, 1) := by decide +kernel
set_option maxRecDepth 20000 in
theorem ggX5_together_X5_refuse : GoodIn wsX5_together wsX5_refuse := goodIn_r _ [7, 8, 9, 56, 57, 58, 59, 60, 61, 62, 63, 64] (by decide +kernel) (by decide +kernel)
set_option maxRecDepth 20000 in
theorem gX5_together_X5_refuse : GoodIn wsX5_together (wsV RX5 60 RX5 yX5_refuse wsX5_refuse) := goodIn_app (goodIn_of _ (by decide +kernel)) ggX5_together_X5_refuse
set_option maxRecDepth 20000 in
theorem ggX5_together_X3_copyWalk : GoodIn wsX5_together wsX3_copyWalk := goodIn_r _ [13, 14, 15, 16, 17, 18, 19, 20, 21, 22, 23, 24, 25, 26, 27, 28, 29, 30, 31, 32, 33, 34, 35, 65, 66, 67, 68, 69, 70, 71, 72, 73, 74, 75, 76, 77, 78, 79, 80, 81, 82, 83] (by decide +kernel) (by decide +kernel)
set_option maxRecDepth 20000 in
theorem gX5_together_X3_copyWalk_n174 : GoodIn wsX5_together (wsX3_copyWalk) := ggX5_together_X3_copyWalk
set_option maxRecDepth 20000 in
theorem ggX5_together_X3_climbersAt : GoodIn wsX5_together wsX3_climbersAt := goodIn_r _ [38, 22, 25, 65, 66, 67, 68, 69, 70, 71, 72, 73, 74, 75, 76, 77, 78, 79, 80] (by decide +kernel) (by decide +kernel)
set_option maxRecDepth 20000 in
theorem gX5_together_X3_climbersAt_n84 : GoodIn wsX5_together (wsX3_climbersAt) := ggX5_together_X3_climbersAt
set_option maxRecDepth 20000 in
theorem ggX5_together_X3_passUncounted : GoodIn wsX5_together wsX3_passUncounted := goodIn_r _ [41, 22, 25, 21, 42, 43, 44, 11, 45, 24, 23, 46, 6, 47, 48, 49, 50, 51, 14, 52, 53, 54, 55, 65, 66, 67, 68, 69, 70, 71, 72, 73, 74, 75, 76, 77, 78, 79, 80] (by decide +kernel) (by decide +kernel)
set_option maxRecDepth 20000 in
theorem gX5_together_X3_passUncounted_n187 : GoodIn wsX5_together (wsX3_passUncounted) := ggX5_together_X3_passUncounted
theorem dX5_together_0 : decode cX5_together 0 = .ok (.aload_n 0, 1) := by decide +kernel
theorem dX5_together_1 : decode cX5_together 1 = .ok (.getfield 12, 3) := by decide +kernel
theorem dX5_together_4 : decode cX5_together 4 = .ok (.getfield 64, 3) := by decide +kernel
theorem dX5_together_7 : decode cX5_together 7 = .ok (.ifCond .ne 9, 3) := by decide +kernel
theorem dX5_together_10 : decode cX5_together 10 = .ok (.aload_n 0, 1) := by decide +kernel
theorem dX5_together_11 : decode cX5_together 11 = .ok (.iconst 3, 1) := by decide +kernel
theorem dX5_together_12 : decode cX5_together 12 = .ok (.invokevirtual 60, 3) := by decide +kernel
theorem dX5_together_15 : decode cX5_together 15 = .ok (.ireturn, 1) := by decide +kernel
theorem dX5_together_16 : decode cX5_together 16 = .ok (.aload_n 0, 1) := by decide +kernel
theorem dX5_together_17 : decode cX5_together 17 = .ok (.getfield 19, 3) := by decide +kernel
theorem dX5_together_20 : decode cX5_together 20 = .ok (.aload_n 0, 1) := by decide +kernel
theorem dX5_together_21 : decode cX5_together 21 = .ok (.getfield 12, 3) := by decide +kernel
theorem dX5_together_24 : decode cX5_together 24 = .ok (.invokevirtual 174, 3) := by decide +kernel
theorem dX5_together_27 : decode cX5_together 27 = .ok (.iconst 0, 1) := by decide +kernel
theorem dX5_together_28 : decode cX5_together 28 = .ok (.istore_n 1, 1) := by decide +kernel
theorem dX5_together_29 : decode cX5_together 29 = .ok (.iload_n 1, 1) := by decide +kernel
theorem dX5_together_30 : decode cX5_together 30 = .ok (.sipush 500, 3) := by decide +kernel
theorem dX5_together_33 : decode cX5_together 33 = .ok (.if_icmp .gt 44, 3) := by decide +kernel
theorem dX5_together_36 : decode cX5_together 36 = .ok (.aload_n 0, 1) := by decide +kernel
theorem dX5_together_37 : decode cX5_together 37 = .ok (.getfield 19, 3) := by decide +kernel
theorem dX5_together_40 : decode cX5_together 40 = .ok (.aload_n 0, 1) := by decide +kernel
theorem dX5_together_41 : decode cX5_together 41 = .ok (.getfield 19, 3) := by decide +kernel
theorem dX5_together_44 : decode cX5_together 44 = .ok (.getfield 100, 3) := by decide +kernel
theorem dX5_together_47 : decode cX5_together 47 = .ok (.iconst 0, 1) := by decide +kernel
theorem dX5_together_48 : decode cX5_together 48 = .ok (.iaload, 1) := by decide +kernel
theorem dX5_together_49 : decode cX5_together 49 = .ok (.invokevirtual 84, 3) := by decide +kernel
theorem dX5_together_52 : decode cX5_together 52 = .ok (.aload_n 0, 1) := by decide +kernel
theorem dX5_together_53 : decode cX5_together 53 = .ok (.getfield 19, 3) := by decide +kernel
theorem dX5_together_56 : decode cX5_together 56 = .ok (.getfield 64, 3) := by decide +kernel
theorem dX5_together_59 : decode cX5_together 59 = .ok (.if_icmp .ne 5, 3) := by decide +kernel
theorem dX5_together_62 : decode cX5_together 62 = .ok (.iload_n 1, 1) := by decide +kernel
theorem dX5_together_63 : decode cX5_together 63 = .ok (.ireturn, 1) := by decide +kernel
theorem dX5_together_64 : decode cX5_together 64 = .ok (.aload_n 0, 1) := by decide +kernel
theorem dX5_together_65 : decode cX5_together 65 = .ok (.getfield 19, 3) := by decide +kernel
theorem dX5_together_68 : decode cX5_together 68 = .ok (.invokevirtual 187, 3) := by decide +kernel
theorem dX5_together_71 : decode cX5_together 71 = .ok (.iinc 1 1, 3) := by decide +kernel
theorem dX5_together_74 : decode cX5_together 74 = .ok (.goto (-45), 3) := by decide +kernel
theorem dX5_together_77 : decode cX5_together 77 = .ok (.aload_n 0, 1) := by decide +kernel
theorem dX5_together_78 : decode cX5_together 78 = .ok (.iconst 2, 1) := by decide +kernel
theorem dX5_together_79 : decode cX5_together 79 = .ok (.invokevirtual 60, 3) := by decide +kernel
theorem dX5_together_82 : decode cX5_together 82 = .ok (.ireturn, 1) := by decide +kernel
set_option maxRecDepth 20000 in
theorem ggX5_dispute_X3_copyWalk : GoodIn wsX5_dispute wsX3_copyWalk := goodIn_r _ [6, 7, 8, 9, 10, 11, 12, 13, 14, 15, 16, 17, 18, 19, 20, 21, 22, 23, 24, 25, 26, 27, 28, 100, 101, 102, 103, 104, 105, 106, 107, 108, 109, 110, 111, 112, 113, 114, 115, 116, 117, 118] (by decide +kernel) (by decide +kernel)
set_option maxRecDepth 20000 in
theorem gX5_dispute_X3_copyWalk_n174 : GoodIn wsX5_dispute (wsX3_copyWalk) := ggX5_dispute_X3_copyWalk
set_option maxRecDepth 20000 in
theorem ggX5_dispute_X3_hasDispute : GoodIn wsX5_dispute wsX3_hasDispute := goodIn_r _ [31, 15, 18, 19, 100, 101, 102, 103, 104, 105, 106, 107, 108, 109, 110, 111, 112, 113, 114, 115] (by decide +kernel) (by decide +kernel)
set_option maxRecDepth 20000 in
theorem gX5_dispute_X3_hasDispute_n190 : GoodIn wsX5_dispute (wsX3_hasDispute) := ggX5_dispute_X3_hasDispute
set_option maxRecDepth 20000 in
theorem ggX5_dispute_X3_pass : GoodIn wsX5_dispute wsX3_pass := goodIn_r _ [34, 15, 14, 35, 36, 37, 4, 38, 18, 19, 39, 40, 41, 42, 17, 16, 43, 44, 45, 46, 47, 48, 49, 13, 8, 50, 51, 52, 53, 20, 54, 23, 55, 56, 26, 57, 58, 59, 27, 60, 61, 62, 63, 64, 65, 66, 67, 68, 69, 70, 71, 72, 73, 74, 75, 76, 77, 78, 79, 80, 7, 81, 82, 83, 84, 100, 101, 102, 103, 104, 105, 106, 107, 108, 109, 110, 111, 112, 113, 114, 115, 116, 117, 118] (by decide +kernel) (by decide +kernel)
set_option maxRecDepth 20000 in
theorem gX5_dispute_X3_pass_n161 : GoodIn wsX5_dispute (wsX3_pass) := ggX5_dispute_X3_pass
set_option maxRecDepth 20000 in
theorem ggX5_dispute_X5_refuse : GoodIn wsX5_dispute wsX5_refuse := goodIn_r _ [88, 89, 90, 91, 92, 93, 94, 95, 96, 97, 98, 99] (by decide +kernel) (by decide +kernel)
set_option maxRecDepth 20000 in
theorem gX5_dispute_X5_refuse : GoodIn wsX5_dispute (wsV RX5 60 RX5 yX5_refuse wsX5_refuse) := goodIn_app (goodIn_of _ (by decide +kernel)) ggX5_dispute_X5_refuse
theorem dX5_dispute_0 : decode cX5_dispute 0 = .ok (.aload_n 0, 1) := by decide +kernel
theorem dX5_dispute_1 : decode cX5_dispute 1 = .ok (.getfield 19, 3) := by decide +kernel
theorem dX5_dispute_4 : decode cX5_dispute 4 = .ok (.aload_n 0, 1) := by decide +kernel
theorem dX5_dispute_5 : decode cX5_dispute 5 = .ok (.getfield 12, 3) := by decide +kernel
theorem dX5_dispute_8 : decode cX5_dispute 8 = .ok (.invokevirtual 174, 3) := by decide +kernel
theorem dX5_dispute_11 : decode cX5_dispute 11 = .ok (.iconst 0, 1) := by decide +kernel
theorem dX5_dispute_12 : decode cX5_dispute 12 = .ok (.istore_n 1, 1) := by decide +kernel
theorem dX5_dispute_13 : decode cX5_dispute 13 = .ok (.iload_n 1, 1) := by decide +kernel
theorem dX5_dispute_14 : decode cX5_dispute 14 = .ok (.sipush 200, 3) := by decide +kernel
theorem dX5_dispute_17 : decode cX5_dispute 17 = .ok (.if_icmp .gt 28, 3) := by decide +kernel
theorem dX5_dispute_20 : decode cX5_dispute 20 = .ok (.aload_n 0, 1) := by decide +kernel
theorem dX5_dispute_21 : decode cX5_dispute 21 = .ok (.getfield 19, 3) := by decide +kernel
theorem dX5_dispute_24 : decode cX5_dispute 24 = .ok (.invokevirtual 190, 3) := by decide +kernel
theorem dX5_dispute_27 : decode cX5_dispute 27 = .ok (.ifCond .eq 5, 3) := by decide +kernel
theorem dX5_dispute_30 : decode cX5_dispute 30 = .ok (.iload_n 1, 1) := by decide +kernel
theorem dX5_dispute_31 : decode cX5_dispute 31 = .ok (.ireturn, 1) := by decide +kernel
theorem dX5_dispute_32 : decode cX5_dispute 32 = .ok (.aload_n 0, 1) := by decide +kernel
theorem dX5_dispute_33 : decode cX5_dispute 33 = .ok (.getfield 19, 3) := by decide +kernel
theorem dX5_dispute_36 : decode cX5_dispute 36 = .ok (.invokevirtual 161, 3) := by decide +kernel
theorem dX5_dispute_39 : decode cX5_dispute 39 = .ok (.iinc 1 1, 3) := by decide +kernel
theorem dX5_dispute_42 : decode cX5_dispute 42 = .ok (.goto (-29), 3) := by decide +kernel
theorem dX5_dispute_45 : decode cX5_dispute 45 = .ok (.aload_n 0, 1) := by decide +kernel
theorem dX5_dispute_46 : decode cX5_dispute 46 = .ok (.iconst 2, 1) := by decide +kernel
theorem dX5_dispute_47 : decode cX5_dispute 47 = .ok (.invokevirtual 60, 3) := by decide +kernel
theorem dX5_dispute_50 : decode cX5_dispute 50 = .ok (.ireturn, 1) := by decide +kernel
set_option maxRecDepth 20000 in
theorem ggX5_levels_X5_isOutside : GoodIn wsX5_levels wsX5_isOutside := goodIn_r _ [6] (by decide +kernel) (by decide +kernel)
set_option maxRecDepth 20000 in
theorem gX5_levels_X5_isOutside : GoodIn wsX5_levels (va_wsS RX5 56 yX5_isOutside wsX5_isOutside) := goodIn_app (goodIn_of _ (by decide +kernel)) ggX5_levels_X5_isOutside
set_option maxRecDepth 20000 in
theorem ggX5_levels_X5_refuse : GoodIn wsX5_levels wsX5_refuse := goodIn_r _ [10, 11, 12, 35, 36, 37, 38, 39, 40, 41, 42, 43] (by decide +kernel) (by decide +kernel)
set_option maxRecDepth 20000 in
theorem gX5_levels_X5_refuse : GoodIn wsX5_levels (wsV RX5 60 RX5 yX5_refuse wsX5_refuse) := goodIn_app (goodIn_of _ (by decide +kernel)) ggX5_levels_X5_refuse
set_option maxRecDepth 20000 in
theorem ggX5_levels_X3_allRises : GoodIn wsX5_levels wsX3_allRises := goodIn_r _ [16, 17, 18, 44, 45, 46, 47, 48, 49, 50, 51, 52, 53, 54, 55, 56, 57, 58, 59] (by decide +kernel) (by decide +kernel)
set_option maxRecDepth 20000 in
theorem gX5_levels_X3_allRises_n193 : GoodIn wsX5_levels (wsX3_allRises) := ggX5_levels_X3_allRises
set_option maxRecDepth 20000 in
theorem ggX5_levels_X5_countFewest : GoodIn wsX5_levels wsX5_countFewest := goodIn_r _ [22, 2, 1, 23, 24, 25, 26, 27, 28, 29, 30, 3, 4, 5, 6, 35, 36, 37, 38, 39, 40, 41, 42, 43, 44, 45, 46, 47, 48, 49, 50, 51, 52, 53, 54, 55, 56, 57, 58, 59] (by decide +kernel) (by decide +kernel)
set_option maxRecDepth 20000 in
theorem gX5_levels_X5_countFewest : GoodIn wsX5_levels (wsV RX5 196 RX5 yX5_countFewest wsX5_countFewest) := goodIn_app (goodIn_of _ (by decide +kernel)) ggX5_levels_X5_countFewest
set_option maxRecDepth 20000 in
theorem ggX5_levels_X5_leastSet : GoodIn wsX5_levels wsX5_leastSet := goodIn_r _ [34, 1, 2, 3, 4, 5, 6, 35, 36, 37, 38, 39, 40, 41, 42, 43, 44, 45, 46, 47, 48, 49, 50, 51, 52, 53, 54, 55, 56, 57, 58, 59] (by decide +kernel) (by decide +kernel)
set_option maxRecDepth 20000 in
theorem gX5_levels_X5_leastSet : GoodIn wsX5_levels (wsV RX5 199 RX5 yX5_leastSet wsX5_leastSet) := goodIn_app (goodIn_of _ (by decide +kernel)) ggX5_levels_X5_leastSet
theorem dX5_levels_0 : decode cX5_levels 0 = .ok (.iload_n 1, 1) := by decide +kernel
theorem dX5_levels_1 : decode cX5_levels 1 = .ok (.bipush (-126), 2) := by decide +kernel
theorem dX5_levels_3 : decode cX5_levels 3 = .ok (.bipush 126, 2) := by decide +kernel
theorem dX5_levels_5 : decode cX5_levels 5 = .ok (.invokestatic 56, 3) := by decide +kernel
theorem dX5_levels_8 : decode cX5_levels 8 = .ok (.ifCond .ne 12, 3) := by decide +kernel
theorem dX5_levels_11 : decode cX5_levels 11 = .ok (.iload_n 2, 1) := by decide +kernel
theorem dX5_levels_12 : decode cX5_levels 12 = .ok (.iconst 0, 1) := by decide +kernel
theorem dX5_levels_13 : decode cX5_levels 13 = .ok (.iconst 1, 1) := by decide +kernel
theorem dX5_levels_14 : decode cX5_levels 14 = .ok (.invokestatic 56, 3) := by decide +kernel
theorem dX5_levels_17 : decode cX5_levels 17 = .ok (.ifCond .eq 9, 3) := by decide +kernel
theorem dX5_levels_20 : decode cX5_levels 20 = .ok (.aload_n 0, 1) := by decide +kernel
theorem dX5_levels_21 : decode cX5_levels 21 = .ok (.iconst 1, 1) := by decide +kernel
theorem dX5_levels_22 : decode cX5_levels 22 = .ok (.invokevirtual 60, 3) := by decide +kernel
theorem dX5_levels_25 : decode cX5_levels 25 = .ok (.ireturn, 1) := by decide +kernel
theorem dX5_levels_26 : decode cX5_levels 26 = .ok (.aload_n 0, 1) := by decide +kernel
theorem dX5_levels_27 : decode cX5_levels 27 = .ok (.getfield 12, 3) := by decide +kernel
theorem dX5_levels_30 : decode cX5_levels 30 = .ok (.invokevirtual 193, 3) := by decide +kernel
theorem dX5_levels_33 : decode cX5_levels 33 = .ok (.iload_n 1, 1) := by decide +kernel
theorem dX5_levels_34 : decode cX5_levels 34 = .ok (.isub, 1) := by decide +kernel
theorem dX5_levels_35 : decode cX5_levels 35 = .ok (.istore_n 3, 1) := by decide +kernel
theorem dX5_levels_36 : decode cX5_levels 36 = .ok (.iload_n 3, 1) := by decide +kernel
theorem dX5_levels_37 : decode cX5_levels 37 = .ok (.bipush (-126), 2) := by decide +kernel
theorem dX5_levels_39 : decode cX5_levels 39 = .ok (.bipush 126, 2) := by decide +kernel
theorem dX5_levels_41 : decode cX5_levels 41 = .ok (.invokestatic 56, 3) := by decide +kernel
theorem dX5_levels_44 : decode cX5_levels 44 = .ok (.ifCond .eq 9, 3) := by decide +kernel
theorem dX5_levels_47 : decode cX5_levels 47 = .ok (.aload_n 0, 1) := by decide +kernel
theorem dX5_levels_48 : decode cX5_levels 48 = .ok (.iconst 2, 1) := by decide +kernel
theorem dX5_levels_49 : decode cX5_levels 49 = .ok (.invokevirtual 60, 3) := by decide +kernel
theorem dX5_levels_52 : decode cX5_levels 52 = .ok (.ireturn, 1) := by decide +kernel
theorem dX5_levels_53 : decode cX5_levels 53 = .ok (.aload_n 0, 1) := by decide +kernel
theorem dX5_levels_54 : decode cX5_levels 54 = .ok (.invokevirtual 196, 3) := by decide +kernel
theorem dX5_levels_57 : decode cX5_levels 57 = .ok (.aload_n 0, 1) := by decide +kernel
theorem dX5_levels_58 : decode cX5_levels 58 = .ok (.getfield 45, 3) := by decide +kernel
theorem dX5_levels_61 : decode cX5_levels 61 = .ok (.aload_n 0, 1) := by decide +kernel
theorem dX5_levels_62 : decode cX5_levels 62 = .ok (.getfield 12, 3) := by decide +kernel
theorem dX5_levels_65 : decode cX5_levels 65 = .ok (.getfield 67, 3) := by decide +kernel
theorem dX5_levels_68 : decode cX5_levels 68 = .ok (.aaload, 1) := by decide +kernel
theorem dX5_levels_69 : decode cX5_levels 69 = .ok (.bipush 126, 2) := by decide +kernel
theorem dX5_levels_71 : decode cX5_levels 71 = .ok (.iload_n 3, 1) := by decide +kernel
theorem dX5_levels_72 : decode cX5_levels 72 = .ok (.iadd, 1) := by decide +kernel
theorem dX5_levels_73 : decode cX5_levels 73 = .ok (.iaload, 1) := by decide +kernel
theorem dX5_levels_74 : decode cX5_levels 74 = .ok (.istore 4, 2) := by decide +kernel
theorem dX5_levels_76 : decode cX5_levels 76 = .ok (.iload 4, 2) := by decide +kernel
theorem dX5_levels_78 : decode cX5_levels 78 = .ok (.bipush 99, 2) := by decide +kernel
theorem dX5_levels_80 : decode cX5_levels 80 = .ok (.if_icmp .lt 9, 3) := by decide +kernel
theorem dX5_levels_83 : decode cX5_levels 83 = .ok (.aload_n 0, 1) := by decide +kernel
theorem dX5_levels_84 : decode cX5_levels 84 = .ok (.iconst 2, 1) := by decide +kernel
theorem dX5_levels_85 : decode cX5_levels 85 = .ok (.invokevirtual 60, 3) := by decide +kernel
theorem dX5_levels_88 : decode cX5_levels 88 = .ok (.ireturn, 1) := by decide +kernel
theorem dX5_levels_89 : decode cX5_levels 89 = .ok (.iload_n 2, 1) := by decide +kernel
theorem dX5_levels_90 : decode cX5_levels 90 = .ok (.ifCond .ne 8, 3) := by decide +kernel
theorem dX5_levels_93 : decode cX5_levels 93 = .ok (.iload 4, 2) := by decide +kernel
theorem dX5_levels_95 : decode cX5_levels 95 = .ok (.goto 8, 3) := by decide +kernel
theorem dX5_levels_98 : decode cX5_levels 98 = .ok (.aload_n 0, 1) := by decide +kernel
theorem dX5_levels_99 : decode cX5_levels 99 = .ok (.iload_n 3, 1) := by decide +kernel
theorem dX5_levels_100 : decode cX5_levels 100 = .ok (.invokevirtual 199, 3) := by decide +kernel
theorem dX5_levels_103 : decode cX5_levels 103 = .ok (.ireturn, 1) := by decide +kernel
set_option maxRecDepth 20000 in
theorem ggX5_suspects_X3_hasClimber : GoodIn wsX5_suspects wsX3_hasClimber := goodIn_r _ [7, 8, 113, 114, 115, 116, 117, 118, 119, 120, 121, 122, 123, 124, 125, 126, 127, 128] (by decide +kernel) (by decide +kernel)
set_option maxRecDepth 20000 in
theorem gX5_suspects_X3_hasClimber_n91 : GoodIn wsX5_suspects (wsX3_hasClimber) := ggX5_suspects_X3_hasClimber
set_option maxRecDepth 20000 in
theorem ggX5_suspects_X5_isOutside : GoodIn wsX5_suspects wsX5_isOutside := goodIn_r _ [12] (by decide +kernel) (by decide +kernel)
set_option maxRecDepth 20000 in
theorem gX5_suspects_X5_isOutside : GoodIn wsX5_suspects (va_wsS RX5 56 yX5_isOutside wsX5_isOutside) := goodIn_app (goodIn_of _ (by decide +kernel)) ggX5_suspects_X5_isOutside
set_option maxRecDepth 20000 in
theorem ggX5_suspects_X5_refuse : GoodIn wsX5_suspects wsX5_refuse := goodIn_r _ [16, 17, 18, 104, 105, 106, 107, 108, 109, 110, 111, 112] (by decide +kernel) (by decide +kernel)
set_option maxRecDepth 20000 in
theorem gX5_suspects_X5_refuse : GoodIn wsX5_suspects (wsV RX5 60 RX5 yX5_refuse wsX5_refuse) := goodIn_app (goodIn_of _ (by decide +kernel)) ggX5_suspects_X5_refuse
set_option maxRecDepth 20000 in
theorem ggX5_suspects_X2_isMissing : GoodIn wsX5_suspects wsX2_isMissing := goodIn_r _ [22, 23, 129, 130, 131] (by decide +kernel) (by decide +kernel)
set_option maxRecDepth 20000 in
theorem gX5_suspects_X2_isMissing_n202 : GoodIn wsX5_suspects (wsX2_isMissing) := ggX5_suspects_X2_isMissing
set_option maxRecDepth 20000 in
theorem ggX5_suspects_X3_copyWalk : GoodIn wsX5_suspects wsX3_copyWalk := goodIn_r _ [26, 27, 28, 29, 30, 31, 32, 33, 34, 8, 35, 36, 37, 38, 39, 40, 41, 42, 43, 44, 45, 46, 47, 113, 114, 115, 116, 117, 118, 119, 120, 121, 122, 123, 124, 125, 126, 127, 128, 132, 133, 134] (by decide +kernel) (by decide +kernel)
set_option maxRecDepth 20000 in
theorem gX5_suspects_X3_copyWalk_n174 : GoodIn wsX5_suspects (wsX3_copyWalk) := ggX5_suspects_X3_copyWalk
set_option maxRecDepth 20000 in
theorem ggX5_suspects_X3_goesAs : GoodIn wsX5_suspects wsX3_goesAs := goodIn_r _ [50, 38, 51, 52, 53, 5, 54, 34, 55, 56, 57, 58, 37, 59, 60, 61, 62, 36, 35, 63, 11, 64, 65, 66, 67, 68, 33, 28, 69, 70, 71, 72, 39, 73, 42, 74, 75, 45, 76, 77, 78, 46, 79, 80, 81, 82, 83, 84, 85, 86, 87, 88, 89, 90, 91, 92, 93, 94, 95, 96, 97, 98, 99, 27, 100, 101, 102, 103, 113, 114, 115, 116, 117, 118, 119, 120, 121, 122, 123, 124, 125, 126, 127, 128, 132, 133, 134] (by decide +kernel) (by decide +kernel)
set_option maxRecDepth 20000 in
theorem gX5_suspects_X3_goesAs_n210 : GoodIn wsX5_suspects (wsX3_goesAs) := ggX5_suspects_X3_goesAs
theorem dX5_suspects_0 : decode cX5_suspects 0 = .ok (.aload_n 0, 1) := by decide +kernel
theorem dX5_suspects_1 : decode cX5_suspects 1 = .ok (.getfield 12, 3) := by decide +kernel
theorem dX5_suspects_4 : decode cX5_suspects 4 = .ok (.iload_n 1, 1) := by decide +kernel
theorem dX5_suspects_5 : decode cX5_suspects 5 = .ok (.invokevirtual 91, 3) := by decide +kernel
theorem dX5_suspects_8 : decode cX5_suspects 8 = .ok (.ifCond .eq 12, 3) := by decide +kernel
theorem dX5_suspects_11 : decode cX5_suspects 11 = .ok (.iload_n 2, 1) := by decide +kernel
theorem dX5_suspects_12 : decode cX5_suspects 12 = .ok (.iconst 0, 1) := by decide +kernel
theorem dX5_suspects_13 : decode cX5_suspects 13 = .ok (.iconst 3, 1) := by decide +kernel
theorem dX5_suspects_14 : decode cX5_suspects 14 = .ok (.invokestatic 56, 3) := by decide +kernel
theorem dX5_suspects_17 : decode cX5_suspects 17 = .ok (.ifCond .eq 9, 3) := by decide +kernel
theorem dX5_suspects_20 : decode cX5_suspects 20 = .ok (.aload_n 0, 1) := by decide +kernel
theorem dX5_suspects_21 : decode cX5_suspects 21 = .ok (.iconst 1, 1) := by decide +kernel
theorem dX5_suspects_22 : decode cX5_suspects 22 = .ok (.invokevirtual 60, 3) := by decide +kernel
theorem dX5_suspects_25 : decode cX5_suspects 25 = .ok (.ireturn, 1) := by decide +kernel
theorem dX5_suspects_26 : decode cX5_suspects 26 = .ok (.aload_n 0, 1) := by decide +kernel
theorem dX5_suspects_27 : decode cX5_suspects 27 = .ok (.getfield 39, 3) := by decide +kernel
theorem dX5_suspects_30 : decode cX5_suspects 30 = .ok (.iload_n 2, 1) := by decide +kernel
theorem dX5_suspects_31 : decode cX5_suspects 31 = .ok (.invokevirtual 202, 3) := by decide +kernel
theorem dX5_suspects_34 : decode cX5_suspects 34 = .ok (.ifCond .eq 9, 3) := by decide +kernel
theorem dX5_suspects_37 : decode cX5_suspects 37 = .ok (.aload_n 0, 1) := by decide +kernel
theorem dX5_suspects_38 : decode cX5_suspects 38 = .ok (.iconst 2, 1) := by decide +kernel
theorem dX5_suspects_39 : decode cX5_suspects 39 = .ok (.invokevirtual 60, 3) := by decide +kernel
theorem dX5_suspects_42 : decode cX5_suspects 42 = .ok (.ireturn, 1) := by decide +kernel
theorem dX5_suspects_43 : decode cX5_suspects 43 = .ok (.iconst 0, 1) := by decide +kernel
theorem dX5_suspects_44 : decode cX5_suspects 44 = .ok (.istore_n 3, 1) := by decide +kernel
theorem dX5_suspects_45 : decode cX5_suspects 45 = .ok (.iconst 0, 1) := by decide +kernel
theorem dX5_suspects_46 : decode cX5_suspects 46 = .ok (.istore 4, 2) := by decide +kernel
theorem dX5_suspects_48 : decode cX5_suspects 48 = .ok (.iload 4, 2) := by decide +kernel
theorem dX5_suspects_50 : decode cX5_suspects 50 = .ok (.aload_n 0, 1) := by decide +kernel
theorem dX5_suspects_51 : decode cX5_suspects 51 = .ok (.getfield 12, 3) := by decide +kernel
theorem dX5_suspects_54 : decode cX5_suspects 54 = .ok (.getfield 67, 3) := by decide +kernel
theorem dX5_suspects_57 : decode cX5_suspects 57 = .ok (.if_icmp .gt 81, 3) := by decide +kernel
theorem dX5_suspects_60 : decode cX5_suspects 60 = .ok (.aload_n 0, 1) := by decide +kernel
theorem dX5_suspects_61 : decode cX5_suspects 61 = .ok (.getfield 19, 3) := by decide +kernel
theorem dX5_suspects_64 : decode cX5_suspects 64 = .ok (.aload_n 0, 1) := by decide +kernel
theorem dX5_suspects_65 : decode cX5_suspects 65 = .ok (.getfield 12, 3) := by decide +kernel
theorem dX5_suspects_68 : decode cX5_suspects 68 = .ok (.invokevirtual 174, 3) := by decide +kernel
theorem dX5_suspects_71 : decode cX5_suspects 71 = .ok (.aload_n 0, 1) := by decide +kernel
theorem dX5_suspects_72 : decode cX5_suspects 72 = .ok (.getfield 19, 3) := by decide +kernel
theorem dX5_suspects_75 : decode cX5_suspects 75 = .ok (.iload 4, 2) := by decide +kernel
theorem dX5_suspects_77 : decode cX5_suspects 77 = .ok (.aload_n 0, 1) := by decide +kernel
theorem dX5_suspects_78 : decode cX5_suspects 78 = .ok (.getfield 12, 3) := by decide +kernel
theorem dX5_suspects_81 : decode cX5_suspects 81 = .ok (.getfield 67, 3) := by decide +kernel
theorem dX5_suspects_84 : decode cX5_suspects 84 = .ok (.if_icmp .ge 8, 3) := by decide +kernel
theorem dX5_suspects_87 : decode cX5_suspects 87 = .ok (.iload 4, 2) := by decide +kernel
theorem dX5_suspects_89 : decode cX5_suspects 89 = .ok (.goto 4, 3) := by decide +kernel
theorem dX5_suspects_92 : decode cX5_suspects 92 = .ok (.iconst (-1), 1) := by decide +kernel
theorem dX5_suspects_93 : decode cX5_suspects 93 = .ok (.putfield 81, 3) := by decide +kernel
theorem dX5_suspects_96 : decode cX5_suspects 96 = .ok (.aload_n 0, 1) := by decide +kernel
theorem dX5_suspects_97 : decode cX5_suspects 97 = .ok (.getfield 19, 3) := by decide +kernel
theorem dX5_suspects_100 : decode cX5_suspects 100 = .ok (.iload_n 1, 1) := by decide +kernel
theorem dX5_suspects_101 : decode cX5_suspects 101 = .ok (.aload_n 0, 1) := by decide +kernel
theorem dX5_suspects_102 : decode cX5_suspects 102 = .ok (.getfield 39, 3) := by decide +kernel
theorem dX5_suspects_105 : decode cX5_suspects 105 = .ok (.getfield 205, 3) := by decide +kernel
theorem dX5_suspects_108 : decode cX5_suspects 108 = .ok (.iload_n 2, 1) := by decide +kernel
theorem dX5_suspects_109 : decode cX5_suspects 109 = .ok (.aaload, 1) := by decide +kernel
theorem dX5_suspects_110 : decode cX5_suspects 110 = .ok (.aload_n 0, 1) := by decide +kernel
theorem dX5_suspects_111 : decode cX5_suspects 111 = .ok (.getfield 39, 3) := by decide +kernel
theorem dX5_suspects_114 : decode cX5_suspects 114 = .ok (.getfield 207, 3) := by decide +kernel
theorem dX5_suspects_117 : decode cX5_suspects 117 = .ok (.iload_n 2, 1) := by decide +kernel
theorem dX5_suspects_118 : decode cX5_suspects 118 = .ok (.iaload, 1) := by decide +kernel
theorem dX5_suspects_119 : decode cX5_suspects 119 = .ok (.invokevirtual 210, 3) := by decide +kernel
theorem dX5_suspects_122 : decode cX5_suspects 122 = .ok (.ifCond .eq 10, 3) := by decide +kernel
theorem dX5_suspects_125 : decode cX5_suspects 125 = .ok (.iload_n 3, 1) := by decide +kernel
theorem dX5_suspects_126 : decode cX5_suspects 126 = .ok (.iconst 1, 1) := by decide +kernel
theorem dX5_suspects_127 : decode cX5_suspects 127 = .ok (.iload 4, 2) := by decide +kernel
theorem dX5_suspects_129 : decode cX5_suspects 129 = .ok (.ishl, 1) := by decide +kernel
theorem dX5_suspects_130 : decode cX5_suspects 130 = .ok (.ior, 1) := by decide +kernel
theorem dX5_suspects_131 : decode cX5_suspects 131 = .ok (.istore_n 3, 1) := by decide +kernel
theorem dX5_suspects_132 : decode cX5_suspects 132 = .ok (.iinc 4 1, 3) := by decide +kernel
theorem dX5_suspects_135 : decode cX5_suspects 135 = .ok (.goto (-87), 3) := by decide +kernel
theorem dX5_suspects_138 : decode cX5_suspects 138 = .ok (.iload_n 3, 1) := by decide +kernel
theorem dX5_suspects_139 : decode cX5_suspects 139 = .ok (.ireturn, 1) := by decide +kernel
set_option maxRecDepth 20000 in
theorem ggX5_best_X3_hasClimber : GoodIn wsX5_best wsX3_hasClimber := goodIn_r _ [6, 7, 106, 107, 108, 109, 110, 111, 112, 113, 114, 115, 116, 117, 118, 119, 120, 121] (by decide +kernel) (by decide +kernel)
set_option maxRecDepth 20000 in
theorem gX5_best_X3_hasClimber_n91 : GoodIn wsX5_best (wsX3_hasClimber) := ggX5_best_X3_hasClimber
set_option maxRecDepth 20000 in
theorem ggX5_best_X5_isOutside : GoodIn wsX5_best wsX5_isOutside := goodIn_r _ [11] (by decide +kernel) (by decide +kernel)
set_option maxRecDepth 20000 in
theorem gX5_best_X5_isOutside : GoodIn wsX5_best (va_wsS RX5 56 yX5_isOutside wsX5_isOutside) := goodIn_app (goodIn_of _ (by decide +kernel)) ggX5_best_X5_isOutside
set_option maxRecDepth 20000 in
theorem ggX5_best_X5_refuse : GoodIn wsX5_best wsX5_refuse := goodIn_r _ [15, 16, 17, 97, 98, 99, 100, 101, 102, 103, 104, 105] (by decide +kernel) (by decide +kernel)
set_option maxRecDepth 20000 in
theorem gX5_best_X5_refuse : GoodIn wsX5_best (wsV RX5 60 RX5 yX5_refuse wsX5_refuse) := goodIn_app (goodIn_of _ (by decide +kernel)) ggX5_best_X5_refuse
set_option maxRecDepth 20000 in
theorem ggX5_best_X3_copyWalk : GoodIn wsX5_best wsX3_copyWalk := goodIn_r _ [20, 21, 22, 23, 24, 25, 26, 27, 28, 7, 29, 30, 31, 32, 33, 34, 35, 36, 37, 38, 39, 40, 41, 106, 107, 108, 109, 110, 111, 112, 113, 114, 115, 116, 117, 118, 119, 120, 121, 122, 123, 124] (by decide +kernel) (by decide +kernel)
set_option maxRecDepth 20000 in
theorem gX5_best_X3_copyWalk_n174 : GoodIn wsX5_best (wsX3_copyWalk) := ggX5_best_X3_copyWalk
set_option maxRecDepth 20000 in
theorem ggX5_best_X3_worthOf : GoodIn wsX5_best wsX3_worthOf := goodIn_r _ [44, 34, 45, 36, 46, 47, 39, 48, 49, 50, 40, 51, 52, 53, 54, 55, 10, 56, 57, 58, 59, 60, 61, 62, 63, 106, 107, 108, 109, 110, 111, 112, 113, 114, 115, 116, 117, 118, 119, 120, 121, 122, 123, 124] (by decide +kernel) (by decide +kernel)
set_option maxRecDepth 20000 in
theorem gX5_best_X3_worthOf_n155 : GoodIn wsX5_best (wsX3_worthOf) := ggX5_best_X3_worthOf
set_option maxRecDepth 20000 in
theorem ggX5_best_X3_passFor : GoodIn wsX5_best wsX3_passFor := goodIn_r _ [66, 28, 67, 68, 69, 4, 70, 31, 32, 71, 72, 73, 74, 30, 29, 75, 10, 76, 77, 78, 79, 80, 27, 22, 81, 82, 83, 84, 33, 45, 36, 46, 47, 39, 48, 49, 50, 40, 51, 52, 53, 54, 55, 56, 57, 58, 59, 60, 61, 62, 63, 85, 86, 87, 88, 89, 90, 91, 92, 21, 93, 94, 95, 96, 106, 107, 108, 109, 110, 111, 112, 113, 114, 115, 116, 117, 118, 119, 120, 121, 122, 123, 124] (by decide +kernel) (by decide +kernel)
set_option maxRecDepth 20000 in
theorem gX5_best_X3_passFor_n178 : GoodIn wsX5_best (wsX3_passFor) := ggX5_best_X3_passFor
theorem dX5_best_0 : decode cX5_best 0 = .ok (.aload_n 0, 1) := by decide +kernel
theorem dX5_best_1 : decode cX5_best 1 = .ok (.getfield 12, 3) := by decide +kernel
theorem dX5_best_4 : decode cX5_best 4 = .ok (.iload_n 1, 1) := by decide +kernel
theorem dX5_best_5 : decode cX5_best 5 = .ok (.invokevirtual 91, 3) := by decide +kernel
theorem dX5_best_8 : decode cX5_best 8 = .ok (.ifCond .eq 22, 3) := by decide +kernel
theorem dX5_best_11 : decode cX5_best 11 = .ok (.iload_n 2, 1) := by decide +kernel
theorem dX5_best_12 : decode cX5_best 12 = .ok (.iconst 0, 1) := by decide +kernel
theorem dX5_best_13 : decode cX5_best 13 = .ok (.bipush 100, 2) := by decide +kernel
theorem dX5_best_15 : decode cX5_best 15 = .ok (.invokestatic 56, 3) := by decide +kernel
theorem dX5_best_18 : decode cX5_best 18 = .ok (.ifCond .ne 12, 3) := by decide +kernel
theorem dX5_best_21 : decode cX5_best 21 = .ok (.iload_n 3, 1) := by decide +kernel
theorem dX5_best_22 : decode cX5_best 22 = .ok (.iconst 0, 1) := by decide +kernel
theorem dX5_best_23 : decode cX5_best 23 = .ok (.iconst 2, 1) := by decide +kernel
theorem dX5_best_24 : decode cX5_best 24 = .ok (.invokestatic 56, 3) := by decide +kernel
theorem dX5_best_27 : decode cX5_best 27 = .ok (.ifCond .eq 9, 3) := by decide +kernel
theorem dX5_best_30 : decode cX5_best 30 = .ok (.aload_n 0, 1) := by decide +kernel
theorem dX5_best_31 : decode cX5_best 31 = .ok (.iconst 1, 1) := by decide +kernel
theorem dX5_best_32 : decode cX5_best 32 = .ok (.invokevirtual 60, 3) := by decide +kernel
theorem dX5_best_35 : decode cX5_best 35 = .ok (.ireturn, 1) := by decide +kernel
theorem dX5_best_36 : decode cX5_best 36 = .ok (.aload_n 0, 1) := by decide +kernel
theorem dX5_best_37 : decode cX5_best 37 = .ok (.getfield 19, 3) := by decide +kernel
theorem dX5_best_40 : decode cX5_best 40 = .ok (.aload_n 0, 1) := by decide +kernel
theorem dX5_best_41 : decode cX5_best 41 = .ok (.getfield 12, 3) := by decide +kernel
theorem dX5_best_44 : decode cX5_best 44 = .ok (.invokevirtual 174, 3) := by decide +kernel
theorem dX5_best_47 : decode cX5_best 47 = .ok (.iconst (-1), 1) := by decide +kernel
theorem dX5_best_48 : decode cX5_best 48 = .ok (.istore 4, 2) := by decide +kernel
theorem dX5_best_50 : decode cX5_best 50 = .ok (.iconst 0, 1) := by decide +kernel
theorem dX5_best_51 : decode cX5_best 51 = .ok (.istore 5, 2) := by decide +kernel
theorem dX5_best_53 : decode cX5_best 53 = .ok (.iconst 0, 1) := by decide +kernel
theorem dX5_best_54 : decode cX5_best 54 = .ok (.istore 6, 2) := by decide +kernel
theorem dX5_best_56 : decode cX5_best 56 = .ok (.iconst 0, 1) := by decide +kernel
theorem dX5_best_57 : decode cX5_best 57 = .ok (.istore 7, 2) := by decide +kernel
theorem dX5_best_59 : decode cX5_best 59 = .ok (.iload 7, 2) := by decide +kernel
theorem dX5_best_61 : decode cX5_best 61 = .ok (.iload_n 2, 1) := by decide +kernel
theorem dX5_best_62 : decode cX5_best 62 = .ok (.if_icmp .gt 68, 3) := by decide +kernel
theorem dX5_best_65 : decode cX5_best 65 = .ok (.aload_n 0, 1) := by decide +kernel
theorem dX5_best_66 : decode cX5_best 66 = .ok (.getfield 19, 3) := by decide +kernel
theorem dX5_best_69 : decode cX5_best 69 = .ok (.getfield 100, 3) := by decide +kernel
theorem dX5_best_72 : decode cX5_best 72 = .ok (.iload_n 1, 1) := by decide +kernel
theorem dX5_best_73 : decode cX5_best 73 = .ok (.iaload, 1) := by decide +kernel
theorem dX5_best_74 : decode cX5_best 74 = .ok (.istore 8, 2) := by decide +kernel
theorem dX5_best_76 : decode cX5_best 76 = .ok (.aload_n 0, 1) := by decide +kernel
theorem dX5_best_77 : decode cX5_best 77 = .ok (.getfield 19, 3) := by decide +kernel
theorem dX5_best_80 : decode cX5_best 80 = .ok (.iload 8, 2) := by decide +kernel
theorem dX5_best_82 : decode cX5_best 82 = .ok (.aload_n 0, 1) := by decide +kernel
theorem dX5_best_83 : decode cX5_best 83 = .ok (.getfield 19, 3) := by decide +kernel
theorem dX5_best_86 : decode cX5_best 86 = .ok (.getfield 103, 3) := by decide +kernel
theorem dX5_best_89 : decode cX5_best 89 = .ok (.iload_n 1, 1) := by decide +kernel
theorem dX5_best_90 : decode cX5_best 90 = .ok (.iaload, 1) := by decide +kernel
theorem dX5_best_91 : decode cX5_best 91 = .ok (.iload_n 1, 1) := by decide +kernel
theorem dX5_best_92 : decode cX5_best 92 = .ok (.invokevirtual 155, 3) := by decide +kernel
theorem dX5_best_95 : decode cX5_best 95 = .ok (.istore 9, 2) := by decide +kernel
theorem dX5_best_97 : decode cX5_best 97 = .ok (.iload 9, 2) := by decide +kernel
theorem dX5_best_99 : decode cX5_best 99 = .ok (.iload 4, 2) := by decide +kernel
theorem dX5_best_101 : decode cX5_best 101 = .ok (.if_icmp .le 15, 3) := by decide +kernel
theorem dX5_best_104 : decode cX5_best 104 = .ok (.iload 9, 2) := by decide +kernel
theorem dX5_best_106 : decode cX5_best 106 = .ok (.istore 4, 2) := by decide +kernel
theorem dX5_best_108 : decode cX5_best 108 = .ok (.iload 7, 2) := by decide +kernel
theorem dX5_best_110 : decode cX5_best 110 = .ok (.istore 5, 2) := by decide +kernel
theorem dX5_best_112 : decode cX5_best 112 = .ok (.iload 8, 2) := by decide +kernel
theorem dX5_best_114 : decode cX5_best 114 = .ok (.istore 6, 2) := by decide +kernel
theorem dX5_best_116 : decode cX5_best 116 = .ok (.aload_n 0, 1) := by decide +kernel
theorem dX5_best_117 : decode cX5_best 117 = .ok (.getfield 19, 3) := by decide +kernel
theorem dX5_best_120 : decode cX5_best 120 = .ok (.iload_n 1, 1) := by decide +kernel
theorem dX5_best_121 : decode cX5_best 121 = .ok (.invokevirtual 178, 3) := by decide +kernel
theorem dX5_best_124 : decode cX5_best 124 = .ok (.iinc 7 1, 3) := by decide +kernel
theorem dX5_best_127 : decode cX5_best 127 = .ok (.goto (-68), 3) := by decide +kernel
theorem dX5_best_130 : decode cX5_best 130 = .ok (.iload_n 3, 1) := by decide +kernel
theorem dX5_best_131 : decode cX5_best 131 = .ok (.ifCond .ne 8, 3) := by decide +kernel
theorem dX5_best_134 : decode cX5_best 134 = .ok (.iload 4, 2) := by decide +kernel
theorem dX5_best_136 : decode cX5_best 136 = .ok (.goto 15, 3) := by decide +kernel
theorem dX5_best_139 : decode cX5_best 139 = .ok (.iload_n 3, 1) := by decide +kernel
theorem dX5_best_140 : decode cX5_best 140 = .ok (.iconst 1, 1) := by decide +kernel
theorem dX5_best_141 : decode cX5_best 141 = .ok (.if_icmp .ne 8, 3) := by decide +kernel
theorem dX5_best_144 : decode cX5_best 144 = .ok (.iload 5, 2) := by decide +kernel
theorem dX5_best_146 : decode cX5_best 146 = .ok (.goto 5, 3) := by decide +kernel
theorem dX5_best_149 : decode cX5_best 149 = .ok (.iload 6, 2) := by decide +kernel
theorem dX5_best_151 : decode cX5_best 151 = .ok (.ireturn, 1) := by decide +kernel
set_option maxRecDepth 20000 in
theorem ggX5_odds_X5_isPair : GoodIn wsX5_odds wsX5_isPair := goodIn_r _ [7, 1, 8, 9, 10, 11, 12, 70, 71, 72, 73, 74, 75, 76, 77, 78, 79, 80, 81, 82, 83, 84, 85, 86, 87, 88, 89, 90, 91, 92, 93, 94] (by decide +kernel) (by decide +kernel)
set_option maxRecDepth 20000 in
theorem gX5_odds_X5_isPair : GoodIn wsX5_odds (wsV RX5 181 RX5 yX5_isPair wsX5_isPair) := goodIn_app (goodIn_of _ (by decide +kernel)) ggX5_odds_X5_isPair
set_option maxRecDepth 20000 in
theorem ggX5_odds_X5_isOutside : GoodIn wsX5_odds wsX5_isOutside := goodIn_r _ [15] (by decide +kernel) (by decide +kernel)
set_option maxRecDepth 20000 in
theorem gX5_odds_X5_isOutside : GoodIn wsX5_odds (va_wsS RX5 56 yX5_isOutside wsX5_isOutside) := goodIn_app (goodIn_of _ (by decide +kernel)) ggX5_odds_X5_isOutside
set_option maxRecDepth 20000 in
theorem ggX5_odds_X5_refuse : GoodIn wsX5_odds wsX5_refuse := goodIn_r _ [19, 20, 21, 70, 71, 72, 73, 74, 75, 76, 77, 78] (by decide +kernel) (by decide +kernel)
set_option maxRecDepth 20000 in
theorem gX5_odds_X5_refuse : GoodIn wsX5_odds (wsV RX5 60 RX5 yX5_refuse wsX5_refuse) := goodIn_app (goodIn_of _ (by decide +kernel)) ggX5_odds_X5_refuse
set_option maxRecDepth 20000 in
theorem ggX5_odds_X3_copyWalk : GoodIn wsX5_odds wsX3_copyWalk := goodIn_r _ [24, 25, 26, 27, 28, 29, 30, 31, 32, 12, 33, 34, 35, 36, 37, 38, 39, 40, 41, 42, 43, 44, 45, 79, 80, 81, 82, 83, 84, 85, 86, 87, 88, 89, 90, 91, 92, 93, 94, 95, 96, 97] (by decide +kernel) (by decide +kernel)
set_option maxRecDepth 20000 in
theorem gX5_odds_X3_copyWalk_n174 : GoodIn wsX5_odds (wsX3_copyWalk) := ggX5_odds_X3_copyWalk
set_option maxRecDepth 20000 in
theorem ggX5_odds_X3_meetingBy : GoodIn wsX5_odds wsX3_meetingBy := goodIn_r _ [48, 35, 49, 50, 51, 9, 52, 12, 32, 53, 54, 55, 56, 34, 33, 57, 6, 58, 59, 60, 61, 62, 25, 63, 64, 65, 66, 79, 80, 81, 82, 83, 84, 85, 86, 87, 88, 89, 90, 91, 92, 93, 94] (by decide +kernel) (by decide +kernel)
set_option maxRecDepth 20000 in
theorem gX5_odds_X3_meetingBy_n184 : GoodIn wsX5_odds (wsX3_meetingBy) := ggX5_odds_X3_meetingBy
set_option maxRecDepth 20000 in
theorem ggX5_odds_X5_inLowestTerms : GoodIn wsX5_odds wsX5_inLowestTerms := goodIn_r _ [69] (by decide +kernel) (by decide +kernel)
set_option maxRecDepth 20000 in
theorem gX5_odds_X5_inLowestTerms : GoodIn wsX5_odds (va_wsS RX5 214 yX5_inLowestTerms wsX5_inLowestTerms) := goodIn_app (goodIn_of _ (by decide +kernel)) ggX5_odds_X5_inLowestTerms
theorem dX5_odds_0 : decode cX5_odds 0 = .ok (.aload_n 0, 1) := by decide +kernel
theorem dX5_odds_1 : decode cX5_odds 1 = .ok (.iload_n 1, 1) := by decide +kernel
theorem dX5_odds_2 : decode cX5_odds 2 = .ok (.iload_n 2, 1) := by decide +kernel
theorem dX5_odds_3 : decode cX5_odds 3 = .ok (.invokevirtual 181, 3) := by decide +kernel
theorem dX5_odds_6 : decode cX5_odds 6 = .ok (.ifCond .eq 23, 3) := by decide +kernel
theorem dX5_odds_9 : decode cX5_odds 9 = .ok (.iload_n 3, 1) := by decide +kernel
theorem dX5_odds_10 : decode cX5_odds 10 = .ok (.iconst 0, 1) := by decide +kernel
theorem dX5_odds_11 : decode cX5_odds 11 = .ok (.bipush 100, 2) := by decide +kernel
theorem dX5_odds_13 : decode cX5_odds 13 = .ok (.invokestatic 56, 3) := by decide +kernel
theorem dX5_odds_16 : decode cX5_odds 16 = .ok (.ifCond .ne 13, 3) := by decide +kernel
theorem dX5_odds_19 : decode cX5_odds 19 = .ok (.iload 4, 2) := by decide +kernel
theorem dX5_odds_21 : decode cX5_odds 21 = .ok (.iconst 0, 1) := by decide +kernel
theorem dX5_odds_22 : decode cX5_odds 22 = .ok (.iconst 1, 1) := by decide +kernel
theorem dX5_odds_23 : decode cX5_odds 23 = .ok (.invokestatic 56, 3) := by decide +kernel
theorem dX5_odds_26 : decode cX5_odds 26 = .ok (.ifCond .eq 9, 3) := by decide +kernel
theorem dX5_odds_29 : decode cX5_odds 29 = .ok (.aload_n 0, 1) := by decide +kernel
theorem dX5_odds_30 : decode cX5_odds 30 = .ok (.iconst 1, 1) := by decide +kernel
theorem dX5_odds_31 : decode cX5_odds 31 = .ok (.invokevirtual 60, 3) := by decide +kernel
theorem dX5_odds_34 : decode cX5_odds 34 = .ok (.ireturn, 1) := by decide +kernel
theorem dX5_odds_35 : decode cX5_odds 35 = .ok (.iconst 0, 1) := by decide +kernel
theorem dX5_odds_36 : decode cX5_odds 36 = .ok (.istore 5, 2) := by decide +kernel
theorem dX5_odds_38 : decode cX5_odds 38 = .ok (.iconst 0, 1) := by decide +kernel
theorem dX5_odds_39 : decode cX5_odds 39 = .ok (.istore 6, 2) := by decide +kernel
theorem dX5_odds_41 : decode cX5_odds 41 = .ok (.iload 6, 2) := by decide +kernel
theorem dX5_odds_43 : decode cX5_odds 43 = .ok (.aload_n 0, 1) := by decide +kernel
theorem dX5_odds_44 : decode cX5_odds 44 = .ok (.getfield 12, 3) := by decide +kernel
theorem dX5_odds_47 : decode cX5_odds 47 = .ok (.getfield 67, 3) := by decide +kernel
theorem dX5_odds_50 : decode cX5_odds 50 = .ok (.if_icmp .ge 47, 3) := by decide +kernel
theorem dX5_odds_53 : decode cX5_odds 53 = .ok (.aload_n 0, 1) := by decide +kernel
theorem dX5_odds_54 : decode cX5_odds 54 = .ok (.getfield 19, 3) := by decide +kernel
theorem dX5_odds_57 : decode cX5_odds 57 = .ok (.aload_n 0, 1) := by decide +kernel
theorem dX5_odds_58 : decode cX5_odds 58 = .ok (.getfield 12, 3) := by decide +kernel
theorem dX5_odds_61 : decode cX5_odds 61 = .ok (.invokevirtual 174, 3) := by decide +kernel
theorem dX5_odds_64 : decode cX5_odds 64 = .ok (.aload_n 0, 1) := by decide +kernel
theorem dX5_odds_65 : decode cX5_odds 65 = .ok (.getfield 19, 3) := by decide +kernel
theorem dX5_odds_68 : decode cX5_odds 68 = .ok (.getfield 100, 3) := by decide +kernel
theorem dX5_odds_71 : decode cX5_odds 71 = .ok (.iload_n 1, 1) := by decide +kernel
theorem dX5_odds_72 : decode cX5_odds 72 = .ok (.iload 6, 2) := by decide +kernel
theorem dX5_odds_74 : decode cX5_odds 74 = .ok (.iastore, 1) := by decide +kernel
theorem dX5_odds_75 : decode cX5_odds 75 = .ok (.aload_n 0, 1) := by decide +kernel
theorem dX5_odds_76 : decode cX5_odds 76 = .ok (.getfield 19, 3) := by decide +kernel
theorem dX5_odds_79 : decode cX5_odds 79 = .ok (.iload_n 1, 1) := by decide +kernel
theorem dX5_odds_80 : decode cX5_odds 80 = .ok (.iload_n 2, 1) := by decide +kernel
theorem dX5_odds_81 : decode cX5_odds 81 = .ok (.iload_n 3, 1) := by decide +kernel
theorem dX5_odds_82 : decode cX5_odds 82 = .ok (.invokevirtual 184, 3) := by decide +kernel
theorem dX5_odds_85 : decode cX5_odds 85 = .ok (.ifCond .lt 6, 3) := by decide +kernel
theorem dX5_odds_88 : decode cX5_odds 88 = .ok (.iinc 5 1, 3) := by decide +kernel
theorem dX5_odds_91 : decode cX5_odds 91 = .ok (.iinc 6 1, 3) := by decide +kernel
theorem dX5_odds_94 : decode cX5_odds 94 = .ok (.goto (-53), 3) := by decide +kernel
theorem dX5_odds_97 : decode cX5_odds 97 = .ok (.iload 5, 2) := by decide +kernel
theorem dX5_odds_99 : decode cX5_odds 99 = .ok (.aload_n 0, 1) := by decide +kernel
theorem dX5_odds_100 : decode cX5_odds 100 = .ok (.getfield 12, 3) := by decide +kernel
theorem dX5_odds_103 : decode cX5_odds 103 = .ok (.getfield 67, 3) := by decide +kernel
theorem dX5_odds_106 : decode cX5_odds 106 = .ok (.iload 4, 2) := by decide +kernel
theorem dX5_odds_108 : decode cX5_odds 108 = .ok (.invokestatic 214, 3) := by decide +kernel
theorem dX5_odds_111 : decode cX5_odds 111 = .ok (.ireturn, 1) := by decide +kernel
set_option maxRecDepth 20000 in
theorem ggX5_voice_X3_hasClimber : GoodIn wsX5_voice wsX3_hasClimber := goodIn_r _ [6, 7, 57, 58, 59, 60, 61, 62, 63, 64, 65, 66, 67, 68, 69, 70, 71, 72] (by decide +kernel) (by decide +kernel)
set_option maxRecDepth 20000 in
theorem gX5_voice_X3_hasClimber_n91 : GoodIn wsX5_voice (wsX3_hasClimber) := ggX5_voice_X3_hasClimber
set_option maxRecDepth 20000 in
theorem ggX5_voice_X5_isOutside : GoodIn wsX5_voice wsX5_isOutside := goodIn_r _ [11] (by decide +kernel) (by decide +kernel)
set_option maxRecDepth 20000 in
theorem gX5_voice_X5_isOutside : GoodIn wsX5_voice (va_wsS RX5 56 yX5_isOutside wsX5_isOutside) := goodIn_app (goodIn_of _ (by decide +kernel)) ggX5_voice_X5_isOutside
set_option maxRecDepth 20000 in
theorem ggX5_voice_X5_refuse : GoodIn wsX5_voice wsX5_refuse := goodIn_r _ [15, 16, 17, 48, 49, 50, 51, 52, 53, 54, 55, 56] (by decide +kernel) (by decide +kernel)
set_option maxRecDepth 20000 in
theorem gX5_voice_X5_refuse : GoodIn wsX5_voice (wsV RX5 60 RX5 yX5_refuse wsX5_refuse) := goodIn_app (goodIn_of _ (by decide +kernel)) ggX5_voice_X5_refuse
set_option maxRecDepth 20000 in
theorem ggX5_voice_X4_speak : GoodIn wsX5_voice wsX4_speak := goodIn_r _ [21, 22, 23, 24, 25, 26, 27, 28, 29, 19, 30, 31, 32, 33, 34, 9, 10, 11, 35, 36, 37, 38, 39, 40, 41, 42, 43, 44, 45, 46, 47, 73, 74, 75, 76, 77, 78] (by decide +kernel) (by decide +kernel)
set_option maxRecDepth 20000 in
theorem gX5_voice_X4_speak_n217 : GoodIn wsX5_voice (wsX4_speak) := ggX5_voice_X4_speak
theorem dX5_voice_0 : decode cX5_voice 0 = .ok (.aload_n 0, 1) := by decide +kernel
theorem dX5_voice_1 : decode cX5_voice 1 = .ok (.getfield 12, 3) := by decide +kernel
theorem dX5_voice_4 : decode cX5_voice 4 = .ok (.iload_n 1, 1) := by decide +kernel
theorem dX5_voice_5 : decode cX5_voice 5 = .ok (.invokevirtual 91, 3) := by decide +kernel
theorem dX5_voice_8 : decode cX5_voice 8 = .ok (.ifCond .eq 12, 3) := by decide +kernel
theorem dX5_voice_11 : decode cX5_voice 11 = .ok (.iload_n 2, 1) := by decide +kernel
theorem dX5_voice_12 : decode cX5_voice 12 = .ok (.iconst 0, 1) := by decide +kernel
theorem dX5_voice_13 : decode cX5_voice 13 = .ok (.iconst 3, 1) := by decide +kernel
theorem dX5_voice_14 : decode cX5_voice 14 = .ok (.invokestatic 56, 3) := by decide +kernel
theorem dX5_voice_17 : decode cX5_voice 17 = .ok (.ifCond .eq 9, 3) := by decide +kernel
theorem dX5_voice_20 : decode cX5_voice 20 = .ok (.aload_n 0, 1) := by decide +kernel
theorem dX5_voice_21 : decode cX5_voice 21 = .ok (.iconst 1, 1) := by decide +kernel
theorem dX5_voice_22 : decode cX5_voice 22 = .ok (.invokevirtual 60, 3) := by decide +kernel
theorem dX5_voice_25 : decode cX5_voice 25 = .ok (.ireturn, 1) := by decide +kernel
theorem dX5_voice_26 : decode cX5_voice 26 = .ok (.aload_n 0, 1) := by decide +kernel
theorem dX5_voice_27 : decode cX5_voice 27 = .ok (.getfield 32, 3) := by decide +kernel
theorem dX5_voice_30 : decode cX5_voice 30 = .ok (.aload_n 0, 1) := by decide +kernel
theorem dX5_voice_31 : decode cX5_voice 31 = .ok (.getfield 12, 3) := by decide +kernel
theorem dX5_voice_34 : decode cX5_voice 34 = .ok (.getfield 94, 3) := by decide +kernel
theorem dX5_voice_37 : decode cX5_voice 37 = .ok (.iload_n 1, 1) := by decide +kernel
theorem dX5_voice_38 : decode cX5_voice 38 = .ok (.iaload, 1) := by decide +kernel
theorem dX5_voice_39 : decode cX5_voice 39 = .ok (.iload_n 1, 1) := by decide +kernel
theorem dX5_voice_40 : decode cX5_voice 40 = .ok (.aload_n 0, 1) := by decide +kernel
theorem dX5_voice_41 : decode cX5_voice 41 = .ok (.getfield 12, 3) := by decide +kernel
theorem dX5_voice_44 : decode cX5_voice 44 = .ok (.getfield 97, 3) := by decide +kernel
theorem dX5_voice_47 : decode cX5_voice 47 = .ok (.iload_n 1, 1) := by decide +kernel
theorem dX5_voice_48 : decode cX5_voice 48 = .ok (.iaload, 1) := by decide +kernel
theorem dX5_voice_49 : decode cX5_voice 49 = .ok (.iload_n 2, 1) := by decide +kernel
theorem dX5_voice_50 : decode cX5_voice 50 = .ok (.iload_n 3, 1) := by decide +kernel
theorem dX5_voice_51 : decode cX5_voice 51 = .ok (.invokevirtual 217, 3) := by decide +kernel
theorem dX5_voice_54 : decode cX5_voice 54 = .ok (.istore 4, 2) := by decide +kernel
theorem dX5_voice_56 : decode cX5_voice 56 = .ok (.aload_n 0, 1) := by decide +kernel
theorem dX5_voice_57 : decode cX5_voice 57 = .ok (.getfield 32, 3) := by decide +kernel
theorem dX5_voice_60 : decode cX5_voice 60 = .ok (.getfield 221, 3) := by decide +kernel
theorem dX5_voice_63 : decode cX5_voice 63 = .ok (.ifCond .eq 12, 3) := by decide +kernel
theorem dX5_voice_66 : decode cX5_voice 66 = .ok (.aload_n 0, 1) := by decide +kernel
theorem dX5_voice_67 : decode cX5_voice 67 = .ok (.bipush 6, 2) := by decide +kernel
theorem dX5_voice_69 : decode cX5_voice 69 = .ok (.invokevirtual 60, 3) := by decide +kernel
theorem dX5_voice_72 : decode cX5_voice 72 = .ok (.goto 5, 3) := by decide +kernel
theorem dX5_voice_75 : decode cX5_voice 75 = .ok (.iload 4, 2) := by decide +kernel
theorem dX5_voice_77 : decode cX5_voice 77 = .ok (.ireturn, 1) := by decide +kernel
set_option maxRecDepth 20000 in
theorem ggX5_body_X5_isOutside : GoodIn wsX5_body wsX5_isOutside := goodIn_r _ [5] (by decide +kernel) (by decide +kernel)
set_option maxRecDepth 20000 in
theorem gX5_body_X5_isOutside : GoodIn wsX5_body (va_wsS RX5 56 yX5_isOutside wsX5_isOutside) := goodIn_app (goodIn_of _ (by decide +kernel)) ggX5_body_X5_isOutside
set_option maxRecDepth 20000 in
theorem ggX5_body_X5_refuse : GoodIn wsX5_body wsX5_refuse := goodIn_r _ [9, 10, 11, 12, 13, 14, 15, 16, 17, 18, 19, 20] (by decide +kernel) (by decide +kernel)
set_option maxRecDepth 20000 in
theorem gX5_body_X5_refuse : GoodIn wsX5_body (wsV RX5 60 RX5 yX5_refuse wsX5_refuse) := goodIn_app (goodIn_of _ (by decide +kernel)) ggX5_body_X5_refuse
theorem dX5_body_0 : decode cX5_body 0 = .ok (.iload_n 1, 1) := by decide +kernel
theorem dX5_body_1 : decode cX5_body 1 = .ok (.iconst 0, 1) := by decide +kernel
theorem dX5_body_2 : decode cX5_body 2 = .ok (.aload_n 0, 1) := by decide +kernel
theorem dX5_body_3 : decode cX5_body 3 = .ok (.getfield 32, 3) := by decide +kernel
theorem dX5_body_6 : decode cX5_body 6 = .ok (.getfield 225, 3) := by decide +kernel
theorem dX5_body_9 : decode cX5_body 9 = .ok (.iconst 1, 1) := by decide +kernel
theorem dX5_body_10 : decode cX5_body 10 = .ok (.isub, 1) := by decide +kernel
theorem dX5_body_11 : decode cX5_body 11 = .ok (.invokestatic 56, 3) := by decide +kernel
theorem dX5_body_14 : decode cX5_body 14 = .ok (.ifCond .eq 9, 3) := by decide +kernel
theorem dX5_body_17 : decode cX5_body 17 = .ok (.aload_n 0, 1) := by decide +kernel
theorem dX5_body_18 : decode cX5_body 18 = .ok (.iconst 2, 1) := by decide +kernel
theorem dX5_body_19 : decode cX5_body 19 = .ok (.invokevirtual 60, 3) := by decide +kernel
theorem dX5_body_22 : decode cX5_body 22 = .ok (.ireturn, 1) := by decide +kernel
theorem dX5_body_23 : decode cX5_body 23 = .ok (.aload_n 0, 1) := by decide +kernel
theorem dX5_body_24 : decode cX5_body 24 = .ok (.getfield 32, 3) := by decide +kernel
theorem dX5_body_27 : decode cX5_body 27 = .ok (.getfield 228, 3) := by decide +kernel
theorem dX5_body_30 : decode cX5_body 30 = .ok (.iload_n 1, 1) := by decide +kernel
theorem dX5_body_31 : decode cX5_body 31 = .ok (.iaload, 1) := by decide +kernel
theorem dX5_body_32 : decode cX5_body 32 = .ok (.ireturn, 1) := by decide +kernel
set_option maxRecDepth 20000 in
theorem ggX5_sheet_X5_isOutside : GoodIn wsX5_sheet wsX5_isOutside := goodIn_r _ [5] (by decide +kernel) (by decide +kernel)
set_option maxRecDepth 20000 in
theorem gX5_sheet_X5_isOutside : GoodIn wsX5_sheet (va_wsS RX5 56 yX5_isOutside wsX5_isOutside) := goodIn_app (goodIn_of _ (by decide +kernel)) ggX5_sheet_X5_isOutside
set_option maxRecDepth 20000 in
theorem ggX5_sheet_X5_refuse : GoodIn wsX5_sheet wsX5_refuse := goodIn_r _ [9, 10, 11, 23, 24, 25, 26, 27, 28, 29, 30, 31] (by decide +kernel) (by decide +kernel)
set_option maxRecDepth 20000 in
theorem gX5_sheet_X5_refuse : GoodIn wsX5_sheet (wsV RX5 60 RX5 yX5_refuse wsX5_refuse) := goodIn_app (goodIn_of _ (by decide +kernel)) ggX5_sheet_X5_refuse
set_option maxRecDepth 20000 in
theorem ggX5_sheet_X2_lay : GoodIn wsX5_sheet wsX2_lay := goodIn_r _ [15, 16, 17, 18, 19, 20, 21, 22, 32, 33, 34] (by decide +kernel) (by decide +kernel)
set_option maxRecDepth 20000 in
theorem gX5_sheet_X2_lay_n231 : GoodIn wsX5_sheet (wsX2_lay) := ggX5_sheet_X2_lay
theorem dX5_sheet_0 : decode cX5_sheet 0 = .ok (.iload_n 2, 1) := by decide +kernel
theorem dX5_sheet_1 : decode cX5_sheet 1 = .ok (.ifCond .eq 21, 3) := by decide +kernel
theorem dX5_sheet_4 : decode cX5_sheet 4 = .ok (.iload_n 2, 1) := by decide +kernel
theorem dX5_sheet_5 : decode cX5_sheet 5 = .ok (.bipush 8, 2) := by decide +kernel
theorem dX5_sheet_7 : decode cX5_sheet 7 = .ok (.if_icmp .eq 15, 3) := by decide +kernel
theorem dX5_sheet_10 : decode cX5_sheet 10 = .ok (.iload_n 2, 1) := by decide +kernel
theorem dX5_sheet_11 : decode cX5_sheet 11 = .ok (.bipush 16, 2) := by decide +kernel
theorem dX5_sheet_13 : decode cX5_sheet 13 = .ok (.if_icmp .eq 9, 3) := by decide +kernel
theorem dX5_sheet_16 : decode cX5_sheet 16 = .ok (.iload_n 2, 1) := by decide +kernel
theorem dX5_sheet_17 : decode cX5_sheet 17 = .ok (.bipush 32, 2) := by decide +kernel
theorem dX5_sheet_19 : decode cX5_sheet 19 = .ok (.if_icmp .ne 7, 3) := by decide +kernel
theorem dX5_sheet_22 : decode cX5_sheet 22 = .ok (.iconst 1, 1) := by decide +kernel
theorem dX5_sheet_23 : decode cX5_sheet 23 = .ok (.goto 4, 3) := by decide +kernel
theorem dX5_sheet_26 : decode cX5_sheet 26 = .ok (.iconst 0, 1) := by decide +kernel
theorem dX5_sheet_27 : decode cX5_sheet 27 = .ok (.istore 4, 2) := by decide +kernel
theorem dX5_sheet_29 : decode cX5_sheet 29 = .ok (.iload_n 1, 1) := by decide +kernel
theorem dX5_sheet_30 : decode cX5_sheet 30 = .ok (.iconst 0, 1) := by decide +kernel
theorem dX5_sheet_31 : decode cX5_sheet 31 = .ok (.iconst 3, 1) := by decide +kernel
theorem dX5_sheet_32 : decode cX5_sheet 32 = .ok (.invokestatic 56, 3) := by decide +kernel
theorem dX5_sheet_35 : decode cX5_sheet 35 = .ok (.ifCond .ne 8, 3) := by decide +kernel
theorem dX5_sheet_38 : decode cX5_sheet 38 = .ok (.iload 4, 2) := by decide +kernel
theorem dX5_sheet_40 : decode cX5_sheet 40 = .ok (.ifCond .ne 9, 3) := by decide +kernel
theorem dX5_sheet_43 : decode cX5_sheet 43 = .ok (.aload_n 0, 1) := by decide +kernel
theorem dX5_sheet_44 : decode cX5_sheet 44 = .ok (.iconst 1, 1) := by decide +kernel
theorem dX5_sheet_45 : decode cX5_sheet 45 = .ok (.invokevirtual 60, 3) := by decide +kernel
theorem dX5_sheet_48 : decode cX5_sheet 48 = .ok (.ireturn, 1) := by decide +kernel
theorem dX5_sheet_49 : decode cX5_sheet 49 = .ok (.iload_n 2, 1) := by decide +kernel
theorem dX5_sheet_50 : decode cX5_sheet 50 = .ok (.ifCond .eq 13, 3) := by decide +kernel
theorem dX5_sheet_53 : decode cX5_sheet 53 = .ok (.iload_n 3, 1) := by decide +kernel
theorem dX5_sheet_54 : decode cX5_sheet 54 = .ok (.ifCond .ge 9, 3) := by decide +kernel
theorem dX5_sheet_57 : decode cX5_sheet 57 = .ok (.aload_n 0, 1) := by decide +kernel
theorem dX5_sheet_58 : decode cX5_sheet 58 = .ok (.iconst 3, 1) := by decide +kernel
theorem dX5_sheet_59 : decode cX5_sheet 59 = .ok (.invokevirtual 60, 3) := by decide +kernel
theorem dX5_sheet_62 : decode cX5_sheet 62 = .ok (.ireturn, 1) := by decide +kernel
theorem dX5_sheet_63 : decode cX5_sheet 63 = .ok (.iload_n 2, 1) := by decide +kernel
theorem dX5_sheet_64 : decode cX5_sheet 64 = .ok (.ifCond .eq 15, 3) := by decide +kernel
theorem dX5_sheet_67 : decode cX5_sheet 67 = .ok (.iload_n 3, 1) := by decide +kernel
theorem dX5_sheet_68 : decode cX5_sheet 68 = .ok (.bipush 24, 2) := by decide +kernel
theorem dX5_sheet_70 : decode cX5_sheet 70 = .ok (.if_icmp .le 9, 3) := by decide +kernel
theorem dX5_sheet_73 : decode cX5_sheet 73 = .ok (.aload_n 0, 1) := by decide +kernel
theorem dX5_sheet_74 : decode cX5_sheet 74 = .ok (.iconst 1, 1) := by decide +kernel
theorem dX5_sheet_75 : decode cX5_sheet 75 = .ok (.invokevirtual 60, 3) := by decide +kernel
theorem dX5_sheet_78 : decode cX5_sheet 78 = .ok (.ireturn, 1) := by decide +kernel
theorem dX5_sheet_79 : decode cX5_sheet 79 = .ok (.aload_n 0, 1) := by decide +kernel
theorem dX5_sheet_80 : decode cX5_sheet 80 = .ok (.getfield 39, 3) := by decide +kernel
theorem dX5_sheet_83 : decode cX5_sheet 83 = .ok (.iload_n 1, 1) := by decide +kernel
theorem dX5_sheet_84 : decode cX5_sheet 84 = .ok (.iload_n 2, 1) := by decide +kernel
theorem dX5_sheet_85 : decode cX5_sheet 85 = .ok (.iload_n 2, 1) := by decide +kernel
theorem dX5_sheet_86 : decode cX5_sheet 86 = .ok (.ifCond .ne 7, 3) := by decide +kernel
theorem dX5_sheet_89 : decode cX5_sheet 89 = .ok (.iconst 0, 1) := by decide +kernel
theorem dX5_sheet_90 : decode cX5_sheet 90 = .ok (.goto 4, 3) := by decide +kernel
theorem dX5_sheet_93 : decode cX5_sheet 93 = .ok (.iload_n 3, 1) := by decide +kernel
theorem dX5_sheet_94 : decode cX5_sheet 94 = .ok (.invokevirtual 231, 3) := by decide +kernel
theorem dX5_sheet_97 : decode cX5_sheet 97 = .ok (.iconst 1, 1) := by decide +kernel
theorem dX5_sheet_98 : decode cX5_sheet 98 = .ok (.ireturn, 1) := by decide +kernel
set_option maxRecDepth 20000 in
theorem ggX5_put_X5_isOutside : GoodIn wsX5_put wsX5_isOutside := goodIn_r _ [5] (by decide +kernel) (by decide +kernel)
set_option maxRecDepth 20000 in
theorem gX5_put_X5_isOutside : GoodIn wsX5_put (va_wsS RX5 56 yX5_isOutside wsX5_isOutside) := goodIn_app (goodIn_of _ (by decide +kernel)) ggX5_put_X5_isOutside
set_option maxRecDepth 20000 in
theorem ggX5_put_X5_refuse : GoodIn wsX5_put wsX5_refuse := goodIn_r _ [9, 10, 11, 17, 18, 19, 20, 21, 22, 23, 24, 25] (by decide +kernel) (by decide +kernel)
set_option maxRecDepth 20000 in
theorem gX5_put_X5_refuse : GoodIn wsX5_put (wsV RX5 60 RX5 yX5_refuse wsX5_refuse) := goodIn_app (goodIn_of _ (by decide +kernel)) ggX5_put_X5_refuse
set_option maxRecDepth 20000 in
theorem ggX5_put_X2_isMissing : GoodIn wsX5_put wsX2_isMissing := goodIn_r _ [15, 16, 26, 27, 28] (by decide +kernel) (by decide +kernel)
set_option maxRecDepth 20000 in
theorem gX5_put_X2_isMissing_n202 : GoodIn wsX5_put (wsX2_isMissing) := ggX5_put_X2_isMissing
theorem dX5_put_0 : decode cX5_put 0 = .ok (.iload_n 1, 1) := by decide +kernel
theorem dX5_put_1 : decode cX5_put 1 = .ok (.iconst 0, 1) := by decide +kernel
theorem dX5_put_2 : decode cX5_put 2 = .ok (.iconst 3, 1) := by decide +kernel
theorem dX5_put_3 : decode cX5_put 3 = .ok (.invokestatic 56, 3) := by decide +kernel
theorem dX5_put_6 : decode cX5_put 6 = .ok (.ifCond .eq 9, 3) := by decide +kernel
theorem dX5_put_9 : decode cX5_put 9 = .ok (.aload_n 0, 1) := by decide +kernel
theorem dX5_put_10 : decode cX5_put 10 = .ok (.iconst 1, 1) := by decide +kernel
theorem dX5_put_11 : decode cX5_put 11 = .ok (.invokevirtual 60, 3) := by decide +kernel
theorem dX5_put_14 : decode cX5_put 14 = .ok (.ireturn, 1) := by decide +kernel
theorem dX5_put_15 : decode cX5_put 15 = .ok (.aload_n 0, 1) := by decide +kernel
theorem dX5_put_16 : decode cX5_put 16 = .ok (.getfield 39, 3) := by decide +kernel
theorem dX5_put_19 : decode cX5_put 19 = .ok (.iload_n 1, 1) := by decide +kernel
theorem dX5_put_20 : decode cX5_put 20 = .ok (.invokevirtual 202, 3) := by decide +kernel
theorem dX5_put_23 : decode cX5_put 23 = .ok (.ifCond .eq 9, 3) := by decide +kernel
theorem dX5_put_26 : decode cX5_put 26 = .ok (.aload_n 0, 1) := by decide +kernel
theorem dX5_put_27 : decode cX5_put 27 = .ok (.iconst 2, 1) := by decide +kernel
theorem dX5_put_28 : decode cX5_put 28 = .ok (.invokevirtual 60, 3) := by decide +kernel
theorem dX5_put_31 : decode cX5_put 31 = .ok (.ireturn, 1) := by decide +kernel
theorem dX5_put_32 : decode cX5_put 32 = .ok (.iload_n 2, 1) := by decide +kernel
theorem dX5_put_33 : decode cX5_put 33 = .ok (.iconst 0, 1) := by decide +kernel
theorem dX5_put_34 : decode cX5_put 34 = .ok (.aload_n 0, 1) := by decide +kernel
theorem dX5_put_35 : decode cX5_put 35 = .ok (.getfield 39, 3) := by decide +kernel
theorem dX5_put_38 : decode cX5_put 38 = .ok (.getfield 207, 3) := by decide +kernel
theorem dX5_put_41 : decode cX5_put 41 = .ok (.iload_n 1, 1) := by decide +kernel
theorem dX5_put_42 : decode cX5_put 42 = .ok (.iaload, 1) := by decide +kernel
theorem dX5_put_43 : decode cX5_put 43 = .ok (.iconst 1, 1) := by decide +kernel
theorem dX5_put_44 : decode cX5_put 44 = .ok (.isub, 1) := by decide +kernel
theorem dX5_put_45 : decode cX5_put 45 = .ok (.invokestatic 56, 3) := by decide +kernel
theorem dX5_put_48 : decode cX5_put 48 = .ok (.ifCond .eq 9, 3) := by decide +kernel
theorem dX5_put_51 : decode cX5_put 51 = .ok (.aload_n 0, 1) := by decide +kernel
theorem dX5_put_52 : decode cX5_put 52 = .ok (.iconst 1, 1) := by decide +kernel
theorem dX5_put_53 : decode cX5_put 53 = .ok (.invokevirtual 60, 3) := by decide +kernel
theorem dX5_put_56 : decode cX5_put 56 = .ok (.ireturn, 1) := by decide +kernel
theorem dX5_put_57 : decode cX5_put 57 = .ok (.bipush 32, 2) := by decide +kernel
theorem dX5_put_59 : decode cX5_put 59 = .ok (.aload_n 0, 1) := by decide +kernel
theorem dX5_put_60 : decode cX5_put 60 = .ok (.getfield 39, 3) := by decide +kernel
theorem dX5_put_63 : decode cX5_put 63 = .ok (.getfield 234, 3) := by decide +kernel
theorem dX5_put_66 : decode cX5_put 66 = .ok (.iload_n 1, 1) := by decide +kernel
theorem dX5_put_67 : decode cX5_put 67 = .ok (.iaload, 1) := by decide +kernel
theorem dX5_put_68 : decode cX5_put 68 = .ok (.isub, 1) := by decide +kernel
theorem dX5_put_69 : decode cX5_put 69 = .ok (.istore 4, 2) := by decide +kernel
theorem dX5_put_71 : decode cX5_put 71 = .ok (.aload_n 0, 1) := by decide +kernel
theorem dX5_put_72 : decode cX5_put 72 = .ok (.getfield 39, 3) := by decide +kernel
theorem dX5_put_75 : decode cX5_put 75 = .ok (.getfield 205, 3) := by decide +kernel
theorem dX5_put_78 : decode cX5_put 78 = .ok (.iload_n 1, 1) := by decide +kernel
theorem dX5_put_79 : decode cX5_put 79 = .ok (.aaload, 1) := by decide +kernel
theorem dX5_put_80 : decode cX5_put 80 = .ok (.iload_n 2, 1) := by decide +kernel
theorem dX5_put_81 : decode cX5_put 81 = .ok (.iload_n 3, 1) := by decide +kernel
theorem dX5_put_82 : decode cX5_put 82 = .ok (.iload 4, 2) := by decide +kernel
theorem dX5_put_84 : decode cX5_put 84 = .ok (.ishl, 1) := by decide +kernel
theorem dX5_put_85 : decode cX5_put 85 = .ok (.iload 4, 2) := by decide +kernel
theorem dX5_put_87 : decode cX5_put 87 = .ok (.ishr, 1) := by decide +kernel
theorem dX5_put_88 : decode cX5_put 88 = .ok (.iastore, 1) := by decide +kernel
theorem dX5_put_89 : decode cX5_put 89 = .ok (.iconst 1, 1) := by decide +kernel
theorem dX5_put_90 : decode cX5_put 90 = .ok (.ireturn, 1) := by decide +kernel
set_option maxRecDepth 20000 in
theorem ggX5_move_X5_isOutside : GoodIn wsX5_move wsX5_isOutside := goodIn_r _ [9] (by decide +kernel) (by decide +kernel)
set_option maxRecDepth 20000 in
theorem gX5_move_X5_isOutside : GoodIn wsX5_move (va_wsS RX5 56 yX5_isOutside wsX5_isOutside) := goodIn_app (goodIn_of _ (by decide +kernel)) ggX5_move_X5_isOutside
set_option maxRecDepth 20000 in
theorem ggX5_move_X5_refuse : GoodIn wsX5_move wsX5_refuse := goodIn_r _ [13, 14, 15, 25, 26, 27, 28, 29, 30, 31, 32, 33] (by decide +kernel) (by decide +kernel)
set_option maxRecDepth 20000 in
theorem gX5_move_X5_refuse : GoodIn wsX5_move (wsV RX5 60 RX5 yX5_refuse wsX5_refuse) := goodIn_app (goodIn_of _ (by decide +kernel)) ggX5_move_X5_refuse
set_option maxRecDepth 20000 in
theorem ggX5_move_X2_isMissing : GoodIn wsX5_move wsX2_isMissing := goodIn_r _ [19, 20, 34, 35, 36] (by decide +kernel) (by decide +kernel)
set_option maxRecDepth 20000 in
theorem gX5_move_X2_isMissing_n202 : GoodIn wsX5_move (wsX2_isMissing) := ggX5_move_X2_isMissing
set_option maxRecDepth 20000 in
theorem ggX5_move_X2_holds : GoodIn wsX5_move wsX2_holds := goodIn_r _ [23, 24, 34, 35, 36] (by decide +kernel) (by decide +kernel)
set_option maxRecDepth 20000 in
theorem gX5_move_X2_holds_n237 : GoodIn wsX5_move (wsX2_holds) := ggX5_move_X2_holds
theorem dX5_move_0 : decode cX5_move 0 = .ok (.iload_n 1, 1) := by decide +kernel
theorem dX5_move_1 : decode cX5_move 1 = .ok (.iconst 0, 1) := by decide +kernel
theorem dX5_move_2 : decode cX5_move 2 = .ok (.iconst 3, 1) := by decide +kernel
theorem dX5_move_3 : decode cX5_move 3 = .ok (.invokestatic 56, 3) := by decide +kernel
theorem dX5_move_6 : decode cX5_move 6 = .ok (.ifCond .ne 12, 3) := by decide +kernel
theorem dX5_move_9 : decode cX5_move 9 = .ok (.iload_n 3, 1) := by decide +kernel
theorem dX5_move_10 : decode cX5_move 10 = .ok (.iconst 0, 1) := by decide +kernel
theorem dX5_move_11 : decode cX5_move 11 = .ok (.iconst 3, 1) := by decide +kernel
theorem dX5_move_12 : decode cX5_move 12 = .ok (.invokestatic 56, 3) := by decide +kernel
theorem dX5_move_15 : decode cX5_move 15 = .ok (.ifCond .eq 9, 3) := by decide +kernel
theorem dX5_move_18 : decode cX5_move 18 = .ok (.aload_n 0, 1) := by decide +kernel
theorem dX5_move_19 : decode cX5_move 19 = .ok (.iconst 1, 1) := by decide +kernel
theorem dX5_move_20 : decode cX5_move 20 = .ok (.invokevirtual 60, 3) := by decide +kernel
theorem dX5_move_23 : decode cX5_move 23 = .ok (.ireturn, 1) := by decide +kernel
theorem dX5_move_24 : decode cX5_move 24 = .ok (.aload_n 0, 1) := by decide +kernel
theorem dX5_move_25 : decode cX5_move 25 = .ok (.getfield 39, 3) := by decide +kernel
theorem dX5_move_28 : decode cX5_move 28 = .ok (.iload_n 1, 1) := by decide +kernel
theorem dX5_move_29 : decode cX5_move 29 = .ok (.invokevirtual 202, 3) := by decide +kernel
theorem dX5_move_32 : decode cX5_move 32 = .ok (.ifCond .ne 14, 3) := by decide +kernel
theorem dX5_move_35 : decode cX5_move 35 = .ok (.aload_n 0, 1) := by decide +kernel
theorem dX5_move_36 : decode cX5_move 36 = .ok (.getfield 39, 3) := by decide +kernel
theorem dX5_move_39 : decode cX5_move 39 = .ok (.iload_n 3, 1) := by decide +kernel
theorem dX5_move_40 : decode cX5_move 40 = .ok (.invokevirtual 202, 3) := by decide +kernel
theorem dX5_move_43 : decode cX5_move 43 = .ok (.ifCond .eq 9, 3) := by decide +kernel
theorem dX5_move_46 : decode cX5_move 46 = .ok (.aload_n 0, 1) := by decide +kernel
theorem dX5_move_47 : decode cX5_move 47 = .ok (.iconst 2, 1) := by decide +kernel
theorem dX5_move_48 : decode cX5_move 48 = .ok (.invokevirtual 60, 3) := by decide +kernel
theorem dX5_move_51 : decode cX5_move 51 = .ok (.ireturn, 1) := by decide +kernel
theorem dX5_move_52 : decode cX5_move 52 = .ok (.aload_n 0, 1) := by decide +kernel
theorem dX5_move_53 : decode cX5_move 53 = .ok (.getfield 39, 3) := by decide +kernel
theorem dX5_move_56 : decode cX5_move 56 = .ok (.getfield 234, 3) := by decide +kernel
theorem dX5_move_59 : decode cX5_move 59 = .ok (.iload_n 1, 1) := by decide +kernel
theorem dX5_move_60 : decode cX5_move 60 = .ok (.iaload, 1) := by decide +kernel
theorem dX5_move_61 : decode cX5_move 61 = .ok (.aload_n 0, 1) := by decide +kernel
theorem dX5_move_62 : decode cX5_move 62 = .ok (.getfield 39, 3) := by decide +kernel
theorem dX5_move_65 : decode cX5_move 65 = .ok (.getfield 234, 3) := by decide +kernel
theorem dX5_move_68 : decode cX5_move 68 = .ok (.iload_n 3, 1) := by decide +kernel
theorem dX5_move_69 : decode cX5_move 69 = .ok (.iaload, 1) := by decide +kernel
theorem dX5_move_70 : decode cX5_move 70 = .ok (.if_icmp .eq 9, 3) := by decide +kernel
theorem dX5_move_73 : decode cX5_move 73 = .ok (.aload_n 0, 1) := by decide +kernel
theorem dX5_move_74 : decode cX5_move 74 = .ok (.iconst 5, 1) := by decide +kernel
theorem dX5_move_75 : decode cX5_move 75 = .ok (.invokevirtual 60, 3) := by decide +kernel
theorem dX5_move_78 : decode cX5_move 78 = .ok (.ireturn, 1) := by decide +kernel
theorem dX5_move_79 : decode cX5_move 79 = .ok (.aload_n 0, 1) := by decide +kernel
theorem dX5_move_80 : decode cX5_move 80 = .ok (.getfield 39, 3) := by decide +kernel
theorem dX5_move_83 : decode cX5_move 83 = .ok (.iload_n 1, 1) := by decide +kernel
theorem dX5_move_84 : decode cX5_move 84 = .ok (.iload_n 2, 1) := by decide +kernel
theorem dX5_move_85 : decode cX5_move 85 = .ok (.iload 5, 2) := by decide +kernel
theorem dX5_move_87 : decode cX5_move 87 = .ok (.invokevirtual 237, 3) := by decide +kernel
theorem dX5_move_90 : decode cX5_move 90 = .ok (.ifCond .eq 18, 3) := by decide +kernel
theorem dX5_move_93 : decode cX5_move 93 = .ok (.aload_n 0, 1) := by decide +kernel
theorem dX5_move_94 : decode cX5_move 94 = .ok (.getfield 39, 3) := by decide +kernel
theorem dX5_move_97 : decode cX5_move 97 = .ok (.iload_n 3, 1) := by decide +kernel
theorem dX5_move_98 : decode cX5_move 98 = .ok (.iload 4, 2) := by decide +kernel
theorem dX5_move_100 : decode cX5_move 100 = .ok (.iload 5, 2) := by decide +kernel
theorem dX5_move_102 : decode cX5_move 102 = .ok (.invokevirtual 237, 3) := by decide +kernel
theorem dX5_move_105 : decode cX5_move 105 = .ok (.ifCond .ne 9, 3) := by decide +kernel
theorem dX5_move_108 : decode cX5_move 108 = .ok (.aload_n 0, 1) := by decide +kernel
theorem dX5_move_109 : decode cX5_move 109 = .ok (.iconst 1, 1) := by decide +kernel
theorem dX5_move_110 : decode cX5_move 110 = .ok (.invokevirtual 60, 3) := by decide +kernel
theorem dX5_move_113 : decode cX5_move 113 = .ok (.ireturn, 1) := by decide +kernel
theorem dX5_move_114 : decode cX5_move 114 = .ok (.aload_n 0, 1) := by decide +kernel
theorem dX5_move_115 : decode cX5_move 115 = .ok (.getfield 39, 3) := by decide +kernel
theorem dX5_move_118 : decode cX5_move 118 = .ok (.getfield 205, 3) := by decide +kernel
theorem dX5_move_121 : decode cX5_move 121 = .ok (.iload_n 1, 1) := by decide +kernel
theorem dX5_move_122 : decode cX5_move 122 = .ok (.aaload, 1) := by decide +kernel
theorem dX5_move_123 : decode cX5_move 123 = .ok (.iload_n 2, 1) := by decide +kernel
theorem dX5_move_124 : decode cX5_move 124 = .ok (.aload_n 0, 1) := by decide +kernel
theorem dX5_move_125 : decode cX5_move 125 = .ok (.getfield 39, 3) := by decide +kernel
theorem dX5_move_128 : decode cX5_move 128 = .ok (.getfield 205, 3) := by decide +kernel
theorem dX5_move_131 : decode cX5_move 131 = .ok (.iload_n 3, 1) := by decide +kernel
theorem dX5_move_132 : decode cX5_move 132 = .ok (.aaload, 1) := by decide +kernel
theorem dX5_move_133 : decode cX5_move 133 = .ok (.iload 4, 2) := by decide +kernel
theorem dX5_move_135 : decode cX5_move 135 = .ok (.iload 5, 2) := by decide +kernel
theorem dX5_move_137 : decode cX5_move 137 = .ok (.invokestatic 240, 3) := by decide +kernel
theorem dX5_move_140 : decode cX5_move 140 = .ok (.iload 5, 2) := by decide +kernel
theorem dX5_move_142 : decode cX5_move 142 = .ok (.ireturn, 1) := by decide +kernel
set_option maxRecDepth 20000 in
theorem ggX5_rises_X5_isOutside : GoodIn wsX5_rises wsX5_isOutside := goodIn_r _ [10] (by decide +kernel) (by decide +kernel)
set_option maxRecDepth 20000 in
theorem gX5_rises_X5_isOutside : GoodIn wsX5_rises (va_wsS RX5 56 yX5_isOutside wsX5_isOutside) := goodIn_app (goodIn_of _ (by decide +kernel)) ggX5_rises_X5_isOutside
set_option maxRecDepth 20000 in
theorem ggX5_rises_X5_refuse : GoodIn wsX5_rises wsX5_refuse := goodIn_r _ [14, 15, 16, 22, 23, 24, 25, 26, 27, 28, 29, 30] (by decide +kernel) (by decide +kernel)
set_option maxRecDepth 20000 in
theorem gX5_rises_X5_refuse : GoodIn wsX5_rises (wsV RX5 60 RX5 yX5_refuse wsX5_refuse) := goodIn_app (goodIn_of _ (by decide +kernel)) ggX5_rises_X5_refuse
set_option maxRecDepth 20000 in
theorem ggX5_rises_X2_isMissing : GoodIn wsX5_rises wsX2_isMissing := goodIn_r _ [20, 21, 31, 32, 33] (by decide +kernel) (by decide +kernel)
set_option maxRecDepth 20000 in
theorem gX5_rises_X2_isMissing_n202 : GoodIn wsX5_rises (wsX2_isMissing) := ggX5_rises_X2_isMissing
theorem dX5_rises_0 : decode cX5_rises 0 = .ok (.iload_n 1, 1) := by decide +kernel
theorem dX5_rises_1 : decode cX5_rises 1 = .ok (.iconst 0, 1) := by decide +kernel
theorem dX5_rises_2 : decode cX5_rises 2 = .ok (.iconst 3, 1) := by decide +kernel
theorem dX5_rises_3 : decode cX5_rises 3 = .ok (.invokestatic 56, 3) := by decide +kernel
theorem dX5_rises_6 : decode cX5_rises 6 = .ok (.ifCond .eq 9, 3) := by decide +kernel
theorem dX5_rises_9 : decode cX5_rises 9 = .ok (.aload_n 0, 1) := by decide +kernel
theorem dX5_rises_10 : decode cX5_rises 10 = .ok (.iconst 1, 1) := by decide +kernel
theorem dX5_rises_11 : decode cX5_rises 11 = .ok (.invokevirtual 60, 3) := by decide +kernel
theorem dX5_rises_14 : decode cX5_rises 14 = .ok (.ireturn, 1) := by decide +kernel
theorem dX5_rises_15 : decode cX5_rises 15 = .ok (.aload_n 0, 1) := by decide +kernel
theorem dX5_rises_16 : decode cX5_rises 16 = .ok (.getfield 39, 3) := by decide +kernel
theorem dX5_rises_19 : decode cX5_rises 19 = .ok (.iload_n 1, 1) := by decide +kernel
theorem dX5_rises_20 : decode cX5_rises 20 = .ok (.invokevirtual 202, 3) := by decide +kernel
theorem dX5_rises_23 : decode cX5_rises 23 = .ok (.ifCond .eq 9, 3) := by decide +kernel
theorem dX5_rises_26 : decode cX5_rises 26 = .ok (.aload_n 0, 1) := by decide +kernel
theorem dX5_rises_27 : decode cX5_rises 27 = .ok (.iconst 2, 1) := by decide +kernel
theorem dX5_rises_28 : decode cX5_rises 28 = .ok (.invokevirtual 60, 3) := by decide +kernel
theorem dX5_rises_31 : decode cX5_rises 31 = .ok (.ireturn, 1) := by decide +kernel
theorem dX5_rises_32 : decode cX5_rises 32 = .ok (.aload_n 0, 1) := by decide +kernel
theorem dX5_rises_33 : decode cX5_rises 33 = .ok (.getfield 39, 3) := by decide +kernel
theorem dX5_rises_36 : decode cX5_rises 36 = .ok (.getfield 207, 3) := by decide +kernel
theorem dX5_rises_39 : decode cX5_rises 39 = .ok (.iload_n 1, 1) := by decide +kernel
theorem dX5_rises_40 : decode cX5_rises 40 = .ok (.iaload, 1) := by decide +kernel
theorem dX5_rises_41 : decode cX5_rises 41 = .ok (.aload_n 0, 1) := by decide +kernel
theorem dX5_rises_42 : decode cX5_rises 42 = .ok (.getfield 12, 3) := by decide +kernel
theorem dX5_rises_45 : decode cX5_rises 45 = .ok (.getfield 67, 3) := by decide +kernel
theorem dX5_rises_48 : decode cX5_rises 48 = .ok (.invokestatic 246, 3) := by decide +kernel
theorem dX5_rises_51 : decode cX5_rises 51 = .ok (.istore_n 2, 1) := by decide +kernel
theorem dX5_rises_52 : decode cX5_rises 52 = .ok (.iconst 0, 1) := by decide +kernel
theorem dX5_rises_53 : decode cX5_rises 53 = .ok (.istore_n 3, 1) := by decide +kernel
theorem dX5_rises_54 : decode cX5_rises 54 = .ok (.iload_n 3, 1) := by decide +kernel
theorem dX5_rises_55 : decode cX5_rises 55 = .ok (.iload_n 2, 1) := by decide +kernel
theorem dX5_rises_56 : decode cX5_rises 56 = .ok (.if_icmp .ge 47, 3) := by decide +kernel
theorem dX5_rises_59 : decode cX5_rises 59 = .ok (.aload_n 0, 1) := by decide +kernel
theorem dX5_rises_60 : decode cX5_rises 60 = .ok (.getfield 39, 3) := by decide +kernel
theorem dX5_rises_63 : decode cX5_rises 63 = .ok (.getfield 205, 3) := by decide +kernel
theorem dX5_rises_66 : decode cX5_rises 66 = .ok (.iload_n 1, 1) := by decide +kernel
theorem dX5_rises_67 : decode cX5_rises 67 = .ok (.aaload, 1) := by decide +kernel
theorem dX5_rises_68 : decode cX5_rises 68 = .ok (.iload_n 3, 1) := by decide +kernel
theorem dX5_rises_69 : decode cX5_rises 69 = .ok (.iaload, 1) := by decide +kernel
theorem dX5_rises_70 : decode cX5_rises 70 = .ok (.istore 4, 2) := by decide +kernel
theorem dX5_rises_72 : decode cX5_rises 72 = .ok (.iload 4, 2) := by decide +kernel
theorem dX5_rises_74 : decode cX5_rises 74 = .ok (.bipush (-9), 2) := by decide +kernel
theorem dX5_rises_76 : decode cX5_rises 76 = .ok (.bipush 9, 2) := by decide +kernel
theorem dX5_rises_78 : decode cX5_rises 78 = .ok (.invokestatic 56, 3) := by decide +kernel
theorem dX5_rises_81 : decode cX5_rises 81 = .ok (.ifCond .eq 5, 3) := by decide +kernel
theorem dX5_rises_84 : decode cX5_rises 84 = .ok (.iload_n 3, 1) := by decide +kernel
theorem dX5_rises_85 : decode cX5_rises 85 = .ok (.ireturn, 1) := by decide +kernel
theorem dX5_rises_86 : decode cX5_rises 86 = .ok (.aload_n 0, 1) := by decide +kernel
theorem dX5_rises_87 : decode cX5_rises 87 = .ok (.getfield 12, 3) := by decide +kernel
theorem dX5_rises_90 : decode cX5_rises 90 = .ok (.getfield 78, 3) := by decide +kernel
theorem dX5_rises_93 : decode cX5_rises 93 = .ok (.iload_n 3, 1) := by decide +kernel
theorem dX5_rises_94 : decode cX5_rises 94 = .ok (.iload 4, 2) := by decide +kernel
theorem dX5_rises_96 : decode cX5_rises 96 = .ok (.iastore, 1) := by decide +kernel
theorem dX5_rises_97 : decode cX5_rises 97 = .ok (.iinc 3 1, 3) := by decide +kernel
theorem dX5_rises_100 : decode cX5_rises 100 = .ok (.goto (-46), 3) := by decide +kernel
theorem dX5_rises_103 : decode cX5_rises 103 = .ok (.iload_n 2, 1) := by decide +kernel
theorem dX5_rises_104 : decode cX5_rises 104 = .ok (.ireturn, 1) := by decide +kernel
set_option maxRecDepth 20000 in
theorem ggX5_judge_X5_isOutside : GoodIn wsX5_judge wsX5_isOutside := goodIn_r _ [10] (by decide +kernel) (by decide +kernel)
set_option maxRecDepth 20000 in
theorem gX5_judge_X5_isOutside : GoodIn wsX5_judge (va_wsS RX5 56 yX5_isOutside wsX5_isOutside) := goodIn_app (goodIn_of _ (by decide +kernel)) ggX5_judge_X5_isOutside
set_option maxRecDepth 20000 in
theorem ggX5_judge_X5_refuse : GoodIn wsX5_judge wsX5_refuse := goodIn_r _ [14, 15, 16, 22, 23, 24, 25, 26, 27, 28, 29, 30] (by decide +kernel) (by decide +kernel)
set_option maxRecDepth 20000 in
theorem gX5_judge_X5_refuse : GoodIn wsX5_judge (wsV RX5 60 RX5 yX5_refuse wsX5_refuse) := goodIn_app (goodIn_of _ (by decide +kernel)) ggX5_judge_X5_refuse
set_option maxRecDepth 20000 in
theorem ggX5_judge_X2_isMissing : GoodIn wsX5_judge wsX2_isMissing := goodIn_r _ [20, 21, 31, 32, 33] (by decide +kernel) (by decide +kernel)
set_option maxRecDepth 20000 in
theorem gX5_judge_X2_isMissing_n202 : GoodIn wsX5_judge (wsX2_isMissing) := ggX5_judge_X2_isMissing
theorem dX5_judge_0 : decode cX5_judge 0 = .ok (.iload_n 1, 1) := by decide +kernel
theorem dX5_judge_1 : decode cX5_judge 1 = .ok (.iconst 0, 1) := by decide +kernel
theorem dX5_judge_2 : decode cX5_judge 2 = .ok (.iconst 3, 1) := by decide +kernel
theorem dX5_judge_3 : decode cX5_judge 3 = .ok (.invokestatic 56, 3) := by decide +kernel
theorem dX5_judge_6 : decode cX5_judge 6 = .ok (.ifCond .eq 9, 3) := by decide +kernel
theorem dX5_judge_9 : decode cX5_judge 9 = .ok (.aload_n 0, 1) := by decide +kernel
theorem dX5_judge_10 : decode cX5_judge 10 = .ok (.iconst 1, 1) := by decide +kernel
theorem dX5_judge_11 : decode cX5_judge 11 = .ok (.invokevirtual 60, 3) := by decide +kernel
theorem dX5_judge_14 : decode cX5_judge 14 = .ok (.ireturn, 1) := by decide +kernel
theorem dX5_judge_15 : decode cX5_judge 15 = .ok (.aload_n 0, 1) := by decide +kernel
theorem dX5_judge_16 : decode cX5_judge 16 = .ok (.getfield 39, 3) := by decide +kernel
theorem dX5_judge_19 : decode cX5_judge 19 = .ok (.iload_n 1, 1) := by decide +kernel
theorem dX5_judge_20 : decode cX5_judge 20 = .ok (.invokevirtual 202, 3) := by decide +kernel
theorem dX5_judge_23 : decode cX5_judge 23 = .ok (.ifCond .eq 9, 3) := by decide +kernel
theorem dX5_judge_26 : decode cX5_judge 26 = .ok (.aload_n 0, 1) := by decide +kernel
theorem dX5_judge_27 : decode cX5_judge 27 = .ok (.iconst 2, 1) := by decide +kernel
theorem dX5_judge_28 : decode cX5_judge 28 = .ok (.invokevirtual 60, 3) := by decide +kernel
theorem dX5_judge_31 : decode cX5_judge 31 = .ok (.ireturn, 1) := by decide +kernel
theorem dX5_judge_32 : decode cX5_judge 32 = .ok (.aload_n 0, 1) := by decide +kernel
theorem dX5_judge_33 : decode cX5_judge 33 = .ok (.getfield 39, 3) := by decide +kernel
theorem dX5_judge_36 : decode cX5_judge 36 = .ok (.getfield 207, 3) := by decide +kernel
theorem dX5_judge_39 : decode cX5_judge 39 = .ok (.iload_n 1, 1) := by decide +kernel
theorem dX5_judge_40 : decode cX5_judge 40 = .ok (.iaload, 1) := by decide +kernel
theorem dX5_judge_41 : decode cX5_judge 41 = .ok (.aload_n 0, 1) := by decide +kernel
theorem dX5_judge_42 : decode cX5_judge 42 = .ok (.getfield 12, 3) := by decide +kernel
theorem dX5_judge_45 : decode cX5_judge 45 = .ok (.getfield 64, 3) := by decide +kernel
theorem dX5_judge_48 : decode cX5_judge 48 = .ok (.invokestatic 246, 3) := by decide +kernel
theorem dX5_judge_51 : decode cX5_judge 51 = .ok (.istore_n 2, 1) := by decide +kernel
theorem dX5_judge_52 : decode cX5_judge 52 = .ok (.iconst 0, 1) := by decide +kernel
theorem dX5_judge_53 : decode cX5_judge 53 = .ok (.istore_n 3, 1) := by decide +kernel
theorem dX5_judge_54 : decode cX5_judge 54 = .ok (.iload_n 3, 1) := by decide +kernel
theorem dX5_judge_55 : decode cX5_judge 55 = .ok (.iload_n 2, 1) := by decide +kernel
theorem dX5_judge_56 : decode cX5_judge 56 = .ok (.if_icmp .ge 34, 3) := by decide +kernel
theorem dX5_judge_59 : decode cX5_judge 59 = .ok (.aload_n 0, 1) := by decide +kernel
theorem dX5_judge_60 : decode cX5_judge 60 = .ok (.getfield 39, 3) := by decide +kernel
theorem dX5_judge_63 : decode cX5_judge 63 = .ok (.getfield 205, 3) := by decide +kernel
theorem dX5_judge_66 : decode cX5_judge 66 = .ok (.iload_n 1, 1) := by decide +kernel
theorem dX5_judge_67 : decode cX5_judge 67 = .ok (.aaload, 1) := by decide +kernel
theorem dX5_judge_68 : decode cX5_judge 68 = .ok (.iload_n 3, 1) := by decide +kernel
theorem dX5_judge_69 : decode cX5_judge 69 = .ok (.iaload, 1) := by decide +kernel
theorem dX5_judge_70 : decode cX5_judge 70 = .ok (.aload_n 0, 1) := by decide +kernel
theorem dX5_judge_71 : decode cX5_judge 71 = .ok (.getfield 12, 3) := by decide +kernel
theorem dX5_judge_74 : decode cX5_judge 74 = .ok (.getfield 100, 3) := by decide +kernel
theorem dX5_judge_77 : decode cX5_judge 77 = .ok (.iload_n 3, 1) := by decide +kernel
theorem dX5_judge_78 : decode cX5_judge 78 = .ok (.iaload, 1) := by decide +kernel
theorem dX5_judge_79 : decode cX5_judge 79 = .ok (.if_icmp .eq 5, 3) := by decide +kernel
theorem dX5_judge_82 : decode cX5_judge 82 = .ok (.iload_n 3, 1) := by decide +kernel
theorem dX5_judge_83 : decode cX5_judge 83 = .ok (.ireturn, 1) := by decide +kernel
theorem dX5_judge_84 : decode cX5_judge 84 = .ok (.iinc 3 1, 3) := by decide +kernel
theorem dX5_judge_87 : decode cX5_judge 87 = .ok (.goto (-33), 3) := by decide +kernel
theorem dX5_judge_90 : decode cX5_judge 90 = .ok (.iload_n 2, 1) := by decide +kernel
theorem dX5_judge_91 : decode cX5_judge 91 = .ok (.ireturn, 1) := by decide +kernel
set_option maxRecDepth 20000 in
theorem ggX5_image_X3_copyAll : GoodIn wsX5_image wsX3_copyAll := goodIn_r _ [7, 8, 9, 10, 11, 12, 13, 14, 15, 16, 17, 18, 19, 5, 20, 21, 22, 23, 24, 25, 26, 27, 28, 29, 30, 31, 32, 33, 34, 35, 36, 37, 38, 48, 49, 50, 51, 52, 53, 54, 55, 56, 57, 58, 59, 60, 61, 62, 63, 64, 65, 66] (by decide +kernel) (by decide +kernel)
set_option maxRecDepth 20000 in
theorem gX5_image_X3_copyAll_n251 : GoodIn wsX5_image (wsX3_copyAll) := ggX5_image_X3_copyAll
theorem dX5_image_0 : decode cX5_image 0 = .ok (.aload_n 0, 1) := by decide +kernel
theorem dX5_image_1 : decode cX5_image 1 = .ok (.getfield 16, 3) := by decide +kernel
theorem dX5_image_4 : decode cX5_image 4 = .ok (.aload_n 0, 1) := by decide +kernel
theorem dX5_image_5 : decode cX5_image 5 = .ok (.getfield 12, 3) := by decide +kernel
theorem dX5_image_8 : decode cX5_image 8 = .ok (.invokevirtual 251, 3) := by decide +kernel
theorem dX5_image_11 : decode cX5_image 11 = .ok (.aload_n 0, 1) := by decide +kernel
theorem dX5_image_12 : decode cX5_image 12 = .ok (.dup, 1) := by decide +kernel
theorem dX5_image_13 : decode cX5_image 13 = .ok (.getfield 52, 3) := by decide +kernel
theorem dX5_image_16 : decode cX5_image 16 = .ok (.iconst 1, 1) := by decide +kernel
theorem dX5_image_17 : decode cX5_image 17 = .ok (.iadd, 1) := by decide +kernel
theorem dX5_image_18 : decode cX5_image 18 = .ok (.putfield 52, 3) := by decide +kernel
theorem dX5_image_21 : decode cX5_image 21 = .ok (.aload_n 0, 1) := by decide +kernel
theorem dX5_image_22 : decode cX5_image 22 = .ok (.getfield 52, 3) := by decide +kernel
theorem dX5_image_25 : decode cX5_image 25 = .ok (.ireturn, 1) := by decide +kernel
set_option maxRecDepth 20000 in
theorem ggX5_restore_X5_refuse : GoodIn wsX5_restore wsX5_refuse := goodIn_r _ [8, 9, 10, 46, 47, 48, 49, 50, 51, 52, 53, 54] (by decide +kernel) (by decide +kernel)
set_option maxRecDepth 20000 in
theorem gX5_restore_X5_refuse : GoodIn wsX5_restore (wsV RX5 60 RX5 yX5_refuse wsX5_refuse) := goodIn_app (goodIn_of _ (by decide +kernel)) ggX5_restore_X5_refuse
set_option maxRecDepth 20000 in
theorem ggX5_restore_X3_copyAll : GoodIn wsX5_restore wsX3_copyAll := goodIn_r _ [14, 15, 16, 17, 18, 19, 20, 21, 22, 23, 24, 25, 26, 12, 27, 28, 29, 30, 31, 32, 33, 34, 35, 36, 37, 38, 39, 40, 41, 42, 43, 44, 45, 55, 56, 57, 58, 59, 60, 61, 62, 63, 64, 65, 66, 67, 68, 69, 70, 71, 72, 73] (by decide +kernel) (by decide +kernel)
set_option maxRecDepth 20000 in
theorem gX5_restore_X3_copyAll_n251 : GoodIn wsX5_restore (wsX3_copyAll) := ggX5_restore_X3_copyAll
theorem dX5_restore_0 : decode cX5_restore 0 = .ok (.aload_n 0, 1) := by decide +kernel
theorem dX5_restore_1 : decode cX5_restore 1 = .ok (.getfield 52, 3) := by decide +kernel
theorem dX5_restore_4 : decode cX5_restore 4 = .ok (.ifCond .ne 9, 3) := by decide +kernel
theorem dX5_restore_7 : decode cX5_restore 7 = .ok (.aload_n 0, 1) := by decide +kernel
theorem dX5_restore_8 : decode cX5_restore 8 = .ok (.iconst 2, 1) := by decide +kernel
theorem dX5_restore_9 : decode cX5_restore 9 = .ok (.invokevirtual 60, 3) := by decide +kernel
theorem dX5_restore_12 : decode cX5_restore 12 = .ok (.ireturn, 1) := by decide +kernel
theorem dX5_restore_13 : decode cX5_restore 13 = .ok (.aload_n 0, 1) := by decide +kernel
theorem dX5_restore_14 : decode cX5_restore 14 = .ok (.getfield 12, 3) := by decide +kernel
theorem dX5_restore_17 : decode cX5_restore 17 = .ok (.aload_n 0, 1) := by decide +kernel
theorem dX5_restore_18 : decode cX5_restore 18 = .ok (.getfield 16, 3) := by decide +kernel
theorem dX5_restore_21 : decode cX5_restore 21 = .ok (.invokevirtual 251, 3) := by decide +kernel
theorem dX5_restore_24 : decode cX5_restore 24 = .ok (.aload_n 0, 1) := by decide +kernel
theorem dX5_restore_25 : decode cX5_restore 25 = .ok (.getfield 12, 3) := by decide +kernel
theorem dX5_restore_28 : decode cX5_restore 28 = .ok (.getfield 158, 3) := by decide +kernel
theorem dX5_restore_31 : decode cX5_restore 31 = .ok (.ireturn, 1) := by decide +kernel
set_option maxRecDepth 20000 in
theorem ggX5_tell_X5_refuse : GoodIn wsX5_tell wsX5_refuse := goodIn_r _ [6, 7, 8, 9, 10, 11, 12, 13, 14, 15, 16, 17] (by decide +kernel) (by decide +kernel)
set_option maxRecDepth 20000 in
theorem gX5_tell_X5_refuse : GoodIn wsX5_tell (wsV RX5 60 RX5 yX5_refuse wsX5_refuse) := goodIn_app (goodIn_of _ (by decide +kernel)) ggX5_tell_X5_refuse
theorem dX5_tell_0 : decode cX5_tell 0 = .ok (.aload_n 0, 1) := by decide +kernel
theorem dX5_tell_1 : decode cX5_tell 1 = .ok (.getfield 12, 3) := by decide +kernel
theorem dX5_tell_4 : decode cX5_tell 4 = .ok (.getfield 254, 3) := by decide +kernel
theorem dX5_tell_7 : decode cX5_tell 7 = .ok (.bipush 24, 2) := by decide +kernel
theorem dX5_tell_9 : decode cX5_tell 9 = .ok (.if_icmp .lt 9, 3) := by decide +kernel
theorem dX5_tell_12 : decode cX5_tell 12 = .ok (.aload_n 0, 1) := by decide +kernel
theorem dX5_tell_13 : decode cX5_tell 13 = .ok (.iconst 4, 1) := by decide +kernel
theorem dX5_tell_14 : decode cX5_tell 14 = .ok (.invokevirtual 60, 3) := by decide +kernel
theorem dX5_tell_17 : decode cX5_tell 17 = .ok (.ireturn, 1) := by decide +kernel
theorem dX5_tell_18 : decode cX5_tell 18 = .ok (.aload_n 0, 1) := by decide +kernel
theorem dX5_tell_19 : decode cX5_tell 19 = .ok (.getfield 12, 3) := by decide +kernel
theorem dX5_tell_22 : decode cX5_tell 22 = .ok (.getfield 257, 3) := by decide +kernel
theorem dX5_tell_25 : decode cX5_tell 25 = .ok (.aload_n 0, 1) := by decide +kernel
theorem dX5_tell_26 : decode cX5_tell 26 = .ok (.getfield 12, 3) := by decide +kernel
theorem dX5_tell_29 : decode cX5_tell 29 = .ok (.getfield 254, 3) := by decide +kernel
theorem dX5_tell_32 : decode cX5_tell 32 = .ok (.iload_n 1, 1) := by decide +kernel
theorem dX5_tell_33 : decode cX5_tell 33 = .ok (.iastore, 1) := by decide +kernel
theorem dX5_tell_34 : decode cX5_tell 34 = .ok (.aload_n 0, 1) := by decide +kernel
theorem dX5_tell_35 : decode cX5_tell 35 = .ok (.getfield 12, 3) := by decide +kernel
theorem dX5_tell_38 : decode cX5_tell 38 = .ok (.dup, 1) := by decide +kernel
theorem dX5_tell_39 : decode cX5_tell 39 = .ok (.getfield 254, 3) := by decide +kernel
theorem dX5_tell_42 : decode cX5_tell 42 = .ok (.iconst 1, 1) := by decide +kernel
theorem dX5_tell_43 : decode cX5_tell 43 = .ok (.iadd, 1) := by decide +kernel
theorem dX5_tell_44 : decode cX5_tell 44 = .ok (.putfield 254, 3) := by decide +kernel
theorem dX5_tell_47 : decode cX5_tell 47 = .ok (.aload_n 0, 1) := by decide +kernel
theorem dX5_tell_48 : decode cX5_tell 48 = .ok (.getfield 12, 3) := by decide +kernel
theorem dX5_tell_51 : decode cX5_tell 51 = .ok (.getfield 254, 3) := by decide +kernel
theorem dX5_tell_54 : decode cX5_tell 54 = .ok (.ireturn, 1) := by decide +kernel
set_option maxRecDepth 20000 in
theorem ggX5_check_X3_hasClimber : GoodIn wsX5_check wsX3_hasClimber := goodIn_r _ [5, 6, 16, 17, 18, 19, 20, 21, 22, 23, 24, 25, 26, 27, 28, 29, 30, 31] (by decide +kernel) (by decide +kernel)
set_option maxRecDepth 20000 in
theorem gX5_check_X3_hasClimber_n91 : GoodIn wsX5_check (wsX3_hasClimber) := ggX5_check_X3_hasClimber
theorem dX5_check_0 : decode cX5_check 0 = .ok (.aload_n 0, 1) := by decide +kernel
theorem dX5_check_1 : decode cX5_check 1 = .ok (.getfield 12, 3) := by decide +kernel
theorem dX5_check_4 : decode cX5_check 4 = .ok (.getfield 254, 3) := by decide +kernel
theorem dX5_check_7 : decode cX5_check 7 = .ok (.istore_n 1, 1) := by decide +kernel
theorem dX5_check_8 : decode cX5_check 8 = .ok (.aload_n 0, 1) := by decide +kernel
theorem dX5_check_9 : decode cX5_check 9 = .ok (.getfield 12, 3) := by decide +kernel
theorem dX5_check_12 : decode cX5_check 12 = .ok (.iconst 0, 1) := by decide +kernel
theorem dX5_check_13 : decode cX5_check 13 = .ok (.putfield 254, 3) := by decide +kernel
theorem dX5_check_16 : decode cX5_check 16 = .ok (.iconst 0, 1) := by decide +kernel
theorem dX5_check_17 : decode cX5_check 17 = .ok (.istore_n 2, 1) := by decide +kernel
theorem dX5_check_18 : decode cX5_check 18 = .ok (.iload_n 2, 1) := by decide +kernel
theorem dX5_check_19 : decode cX5_check 19 = .ok (.iload_n 1, 1) := by decide +kernel
theorem dX5_check_20 : decode cX5_check 20 = .ok (.if_icmp .ge 45, 3) := by decide +kernel
theorem dX5_check_23 : decode cX5_check 23 = .ok (.aload_n 0, 1) := by decide +kernel
theorem dX5_check_24 : decode cX5_check 24 = .ok (.getfield 12, 3) := by decide +kernel
theorem dX5_check_27 : decode cX5_check 27 = .ok (.iload_n 2, 1) := by decide +kernel
theorem dX5_check_28 : decode cX5_check 28 = .ok (.invokevirtual 91, 3) := by decide +kernel
theorem dX5_check_31 : decode cX5_check 31 = .ok (.ifCond .eq 24, 3) := by decide +kernel
theorem dX5_check_34 : decode cX5_check 34 = .ok (.aload_n 0, 1) := by decide +kernel
theorem dX5_check_35 : decode cX5_check 35 = .ok (.getfield 12, 3) := by decide +kernel
theorem dX5_check_38 : decode cX5_check 38 = .ok (.getfield 257, 3) := by decide +kernel
theorem dX5_check_41 : decode cX5_check 41 = .ok (.iload_n 2, 1) := by decide +kernel
theorem dX5_check_42 : decode cX5_check 42 = .ok (.iaload, 1) := by decide +kernel
theorem dX5_check_43 : decode cX5_check 43 = .ok (.aload_n 0, 1) := by decide +kernel
theorem dX5_check_44 : decode cX5_check 44 = .ok (.getfield 12, 3) := by decide +kernel
theorem dX5_check_47 : decode cX5_check 47 = .ok (.getfield 103, 3) := by decide +kernel
theorem dX5_check_50 : decode cX5_check 50 = .ok (.iload_n 2, 1) := by decide +kernel
theorem dX5_check_51 : decode cX5_check 51 = .ok (.iaload, 1) := by decide +kernel
theorem dX5_check_52 : decode cX5_check 52 = .ok (.if_icmp .eq 7, 3) := by decide +kernel
theorem dX5_check_55 : decode cX5_check 55 = .ok (.iconst 1, 1) := by decide +kernel
theorem dX5_check_56 : decode cX5_check 56 = .ok (.iload_n 2, 1) := by decide +kernel
theorem dX5_check_57 : decode cX5_check 57 = .ok (.iadd, 1) := by decide +kernel
theorem dX5_check_58 : decode cX5_check 58 = .ok (.ireturn, 1) := by decide +kernel
theorem dX5_check_59 : decode cX5_check 59 = .ok (.iinc 2 1, 3) := by decide +kernel
theorem dX5_check_62 : decode cX5_check 62 = .ok (.goto (-44), 3) := by decide +kernel
theorem dX5_check_65 : decode cX5_check 65 = .ok (.iconst 0, 1) := by decide +kernel
theorem dX5_check_66 : decode cX5_check 66 = .ok (.ireturn, 1) := by decide +kernel
set_option maxRecDepth 20000 in
theorem ggX5_count_X3_pairs : GoodIn wsX5_count wsX3_pairs := goodIn_r _ [6, 7, 8, 25, 26, 27, 28, 29, 30, 31, 32, 33, 34, 35, 36, 37, 38, 39, 40] (by decide +kernel) (by decide +kernel)
set_option maxRecDepth 20000 in
theorem gX5_count_X3_pairs_n164 : GoodIn wsX5_count (wsX3_pairs) := ggX5_count_X3_pairs
set_option maxRecDepth 20000 in
theorem ggX5_count_X5_refuse : GoodIn wsX5_count wsX5_refuse := goodIn_r _ [13, 14, 15, 16, 17, 18, 19, 20, 21, 22, 23, 24] (by decide +kernel) (by decide +kernel)
set_option maxRecDepth 20000 in
theorem gX5_count_X5_refuse : GoodIn wsX5_count (wsV RX5 60 RX5 yX5_refuse wsX5_refuse) := goodIn_app (goodIn_of _ (by decide +kernel)) ggX5_count_X5_refuse
theorem dX5_count_0 : decode cX5_count 0 = .ok (.iload_n 1, 1) := by decide +kernel
theorem dX5_count_1 : decode cX5_count 1 = .ok (.tableswitch 123 0 8 #[51, 59, 67, 75, 83, 91, 99, 107, 115], 51) := by decide +kernel
theorem dX5_count_52 : decode cX5_count 52 = .ok (.aload_n 0, 1) := by decide +kernel
theorem dX5_count_53 : decode cX5_count 53 = .ok (.getfield 12, 3) := by decide +kernel
theorem dX5_count_56 : decode cX5_count 56 = .ok (.getfield 64, 3) := by decide +kernel
theorem dX5_count_59 : decode cX5_count 59 = .ok (.ireturn, 1) := by decide +kernel
theorem dX5_count_60 : decode cX5_count 60 = .ok (.aload_n 0, 1) := by decide +kernel
theorem dX5_count_61 : decode cX5_count 61 = .ok (.getfield 12, 3) := by decide +kernel
theorem dX5_count_64 : decode cX5_count 64 = .ok (.getfield 67, 3) := by decide +kernel
theorem dX5_count_67 : decode cX5_count 67 = .ok (.ireturn, 1) := by decide +kernel
theorem dX5_count_68 : decode cX5_count 68 = .ok (.aload_n 0, 1) := by decide +kernel
theorem dX5_count_69 : decode cX5_count 69 = .ok (.getfield 12, 3) := by decide +kernel
theorem dX5_count_72 : decode cX5_count 72 = .ok (.getfield 158, 3) := by decide +kernel
theorem dX5_count_75 : decode cX5_count 75 = .ok (.ireturn, 1) := by decide +kernel
theorem dX5_count_76 : decode cX5_count 76 = .ok (.aload_n 0, 1) := by decide +kernel
theorem dX5_count_77 : decode cX5_count 77 = .ok (.getfield 12, 3) := by decide +kernel
theorem dX5_count_80 : decode cX5_count 80 = .ok (.getfield 81, 3) := by decide +kernel
theorem dX5_count_83 : decode cX5_count 83 = .ok (.ireturn, 1) := by decide +kernel
theorem dX5_count_84 : decode cX5_count 84 = .ok (.aload_n 0, 1) := by decide +kernel
theorem dX5_count_85 : decode cX5_count 85 = .ok (.getfield 12, 3) := by decide +kernel
theorem dX5_count_88 : decode cX5_count 88 = .ok (.invokevirtual 164, 3) := by decide +kernel
theorem dX5_count_91 : decode cX5_count 91 = .ok (.ireturn, 1) := by decide +kernel
theorem dX5_count_92 : decode cX5_count 92 = .ok (.aload_n 0, 1) := by decide +kernel
theorem dX5_count_93 : decode cX5_count 93 = .ok (.getfield 12, 3) := by decide +kernel
theorem dX5_count_96 : decode cX5_count 96 = .ok (.getfield 113, 3) := by decide +kernel
theorem dX5_count_99 : decode cX5_count 99 = .ok (.ireturn, 1) := by decide +kernel
theorem dX5_count_100 : decode cX5_count 100 = .ok (.aload_n 0, 1) := by decide +kernel
theorem dX5_count_101 : decode cX5_count 101 = .ok (.getfield 12, 3) := by decide +kernel
theorem dX5_count_104 : decode cX5_count 104 = .ok (.getfield 254, 3) := by decide +kernel
theorem dX5_count_107 : decode cX5_count 107 = .ok (.ireturn, 1) := by decide +kernel
theorem dX5_count_108 : decode cX5_count 108 = .ok (.aload_n 0, 1) := by decide +kernel
theorem dX5_count_109 : decode cX5_count 109 = .ok (.getfield 32, 3) := by decide +kernel
theorem dX5_count_112 : decode cX5_count 112 = .ok (.getfield 225, 3) := by decide +kernel
theorem dX5_count_115 : decode cX5_count 115 = .ok (.ireturn, 1) := by decide +kernel
theorem dX5_count_116 : decode cX5_count 116 = .ok (.aload_n 0, 1) := by decide +kernel
theorem dX5_count_117 : decode cX5_count 117 = .ok (.getfield 12, 3) := by decide +kernel
theorem dX5_count_120 : decode cX5_count 120 = .ok (.getfield 171, 3) := by decide +kernel
theorem dX5_count_123 : decode cX5_count 123 = .ok (.ireturn, 1) := by decide +kernel
theorem dX5_count_124 : decode cX5_count 124 = .ok (.aload_n 0, 1) := by decide +kernel
theorem dX5_count_125 : decode cX5_count 125 = .ok (.iconst 1, 1) := by decide +kernel
theorem dX5_count_126 : decode cX5_count 126 = .ok (.invokevirtual 60, 3) := by decide +kernel
theorem dX5_count_129 : decode cX5_count 129 = .ok (.ireturn, 1) := by decide +kernel
set_option maxRecDepth 20000 in
theorem ggX5_told_X5_isOutside : GoodIn wsX5_told wsX5_isOutside := goodIn_r _ [5] (by decide +kernel) (by decide +kernel)
set_option maxRecDepth 20000 in
theorem gX5_told_X5_isOutside : GoodIn wsX5_told (va_wsS RX5 56 yX5_isOutside wsX5_isOutside) := goodIn_app (goodIn_of _ (by decide +kernel)) ggX5_told_X5_isOutside
set_option maxRecDepth 20000 in
theorem ggX5_told_X5_refuse : GoodIn wsX5_told wsX5_refuse := goodIn_r _ [9, 1, 10, 11, 12, 13, 14, 15, 16, 17, 18, 19] (by decide +kernel) (by decide +kernel)
set_option maxRecDepth 20000 in
theorem gX5_told_X5_refuse : GoodIn wsX5_told (wsV RX5 60 RX5 yX5_refuse wsX5_refuse) := goodIn_app (goodIn_of _ (by decide +kernel)) ggX5_told_X5_refuse
theorem dX5_told_0 : decode cX5_told 0 = .ok (.iload_n 1, 1) := by decide +kernel
theorem dX5_told_1 : decode cX5_told 1 = .ok (.iconst 1, 1) := by decide +kernel
theorem dX5_told_2 : decode cX5_told 2 = .ok (.bipush 6, 2) := by decide +kernel
theorem dX5_told_4 : decode cX5_told 4 = .ok (.invokestatic 56, 3) := by decide +kernel
theorem dX5_told_7 : decode cX5_told 7 = .ok (.ifCond .eq 9, 3) := by decide +kernel
theorem dX5_told_10 : decode cX5_told 10 = .ok (.aload_n 0, 1) := by decide +kernel
theorem dX5_told_11 : decode cX5_told 11 = .ok (.iconst 1, 1) := by decide +kernel
theorem dX5_told_12 : decode cX5_told 12 = .ok (.invokevirtual 60, 3) := by decide +kernel
theorem dX5_told_15 : decode cX5_told 15 = .ok (.ireturn, 1) := by decide +kernel
theorem dX5_told_16 : decode cX5_told 16 = .ok (.aload_n 0, 1) := by decide +kernel
theorem dX5_told_17 : decode cX5_told 17 = .ok (.getfield 48, 3) := by decide +kernel
theorem dX5_told_20 : decode cX5_told 20 = .ok (.iload_n 1, 1) := by decide +kernel
theorem dX5_told_21 : decode cX5_told 21 = .ok (.iaload, 1) := by decide +kernel
theorem dX5_told_22 : decode cX5_told 22 = .ok (.ireturn, 1) := by decide +kernel
theorem dX5_refuse_0 : decode cX5_refuse 0 = .ok (.aload_n 0, 1) := by decide +kernel
theorem dX5_refuse_1 : decode cX5_refuse 1 = .ok (.getfield 48, 3) := by decide +kernel
theorem dX5_refuse_4 : decode cX5_refuse 4 = .ok (.iload_n 1, 1) := by decide +kernel
theorem dX5_refuse_5 : decode cX5_refuse 5 = .ok (.dup2, 1) := by decide +kernel
theorem dX5_refuse_6 : decode cX5_refuse 6 = .ok (.iaload, 1) := by decide +kernel
theorem dX5_refuse_7 : decode cX5_refuse 7 = .ok (.iconst 1, 1) := by decide +kernel
theorem dX5_refuse_8 : decode cX5_refuse 8 = .ok (.iadd, 1) := by decide +kernel
theorem dX5_refuse_9 : decode cX5_refuse 9 = .ok (.iastore, 1) := by decide +kernel
theorem dX5_refuse_10 : decode cX5_refuse 10 = .ok (.ldc_w 260, 3) := by decide +kernel
theorem dX5_refuse_13 : decode cX5_refuse 13 = .ok (.iload_n 1, 1) := by decide +kernel
theorem dX5_refuse_14 : decode cX5_refuse 14 = .ok (.isub, 1) := by decide +kernel
theorem dX5_refuse_15 : decode cX5_refuse 15 = .ok (.ireturn, 1) := by decide +kernel
set_option maxRecDepth 20000 in
theorem ggX5_isPair_X3_hasClimber : GoodIn wsX5_isPair wsX3_hasClimber := goodIn_r _ [5, 6, 16, 17, 18, 19, 20, 21, 22, 23, 24, 25, 26, 27, 28, 29, 30, 31] (by decide +kernel) (by decide +kernel)
set_option maxRecDepth 20000 in
theorem gX5_isPair_X3_hasClimber_n91 : GoodIn wsX5_isPair (wsX3_hasClimber) := ggX5_isPair_X3_hasClimber
theorem dX5_isPair_0 : decode cX5_isPair 0 = .ok (.aload_n 0, 1) := by decide +kernel
theorem dX5_isPair_1 : decode cX5_isPair 1 = .ok (.getfield 12, 3) := by decide +kernel
theorem dX5_isPair_4 : decode cX5_isPair 4 = .ok (.iload_n 1, 1) := by decide +kernel
theorem dX5_isPair_5 : decode cX5_isPair 5 = .ok (.invokevirtual 91, 3) := by decide +kernel
theorem dX5_isPair_8 : decode cX5_isPair 8 = .ok (.ifCond .eq 23, 3) := by decide +kernel
theorem dX5_isPair_11 : decode cX5_isPair 11 = .ok (.aload_n 0, 1) := by decide +kernel
theorem dX5_isPair_12 : decode cX5_isPair 12 = .ok (.getfield 12, 3) := by decide +kernel
theorem dX5_isPair_15 : decode cX5_isPair 15 = .ok (.iload_n 2, 1) := by decide +kernel
theorem dX5_isPair_16 : decode cX5_isPair 16 = .ok (.invokevirtual 91, 3) := by decide +kernel
theorem dX5_isPair_19 : decode cX5_isPair 19 = .ok (.ifCond .eq 12, 3) := by decide +kernel
theorem dX5_isPair_22 : decode cX5_isPair 22 = .ok (.iload_n 1, 1) := by decide +kernel
theorem dX5_isPair_23 : decode cX5_isPair 23 = .ok (.iload_n 2, 1) := by decide +kernel
theorem dX5_isPair_24 : decode cX5_isPair 24 = .ok (.if_icmp .eq 7, 3) := by decide +kernel
theorem dX5_isPair_27 : decode cX5_isPair 27 = .ok (.iconst 1, 1) := by decide +kernel
theorem dX5_isPair_28 : decode cX5_isPair 28 = .ok (.goto 4, 3) := by decide +kernel
theorem dX5_isPair_31 : decode cX5_isPair 31 = .ok (.iconst 0, 1) := by decide +kernel
theorem dX5_isPair_32 : decode cX5_isPair 32 = .ok (.ireturn, 1) := by decide +kernel
set_option maxRecDepth 20000 in
theorem ggX5_countFewest_J7_fill_53178 : GoodIn wsX5_countFewest wsJ7_fill_53178 := goodIn_r _ [10] (by decide +kernel) (by decide +kernel)
set_option maxRecDepth 20000 in
theorem gX5_countFewest_J7_fill_53178 : GoodIn wsX5_countFewest (va_wsS RX5 261 yJ7_fill_53178 wsJ7_fill_53178) := goodIn_app (goodIn_of _ (by decide +kernel)) ggX5_countFewest_J7_fill_53178
set_option maxRecDepth 20000 in
theorem ggX5_countFewest_X5_isOutside : GoodIn wsX5_countFewest wsX5_isOutside := goodIn_r _ [14] (by decide +kernel) (by decide +kernel)
set_option maxRecDepth 20000 in
theorem gX5_countFewest_X5_isOutside : GoodIn wsX5_countFewest (va_wsS RX5 56 yX5_isOutside wsX5_isOutside) := goodIn_app (goodIn_of _ (by decide +kernel)) ggX5_countFewest_X5_isOutside
theorem dX5_countFewest_0 : decode cX5_countFewest 0 = .ok (.aload_n 0, 1) := by decide +kernel
theorem dX5_countFewest_1 : decode cX5_countFewest 1 = .ok (.getfield 45, 3) := by decide +kernel
theorem dX5_countFewest_4 : decode cX5_countFewest 4 = .ok (.iconst 0, 1) := by decide +kernel
theorem dX5_countFewest_5 : decode cX5_countFewest 5 = .ok (.aaload, 1) := by decide +kernel
theorem dX5_countFewest_6 : decode cX5_countFewest 6 = .ok (.bipush 99, 2) := by decide +kernel
theorem dX5_countFewest_8 : decode cX5_countFewest 8 = .ok (.invokestatic 261, 3) := by decide +kernel
theorem dX5_countFewest_11 : decode cX5_countFewest 11 = .ok (.aload_n 0, 1) := by decide +kernel
theorem dX5_countFewest_12 : decode cX5_countFewest 12 = .ok (.getfield 45, 3) := by decide +kernel
theorem dX5_countFewest_15 : decode cX5_countFewest 15 = .ok (.iconst 0, 1) := by decide +kernel
theorem dX5_countFewest_16 : decode cX5_countFewest 16 = .ok (.aaload, 1) := by decide +kernel
theorem dX5_countFewest_17 : decode cX5_countFewest 17 = .ok (.bipush 126, 2) := by decide +kernel
theorem dX5_countFewest_19 : decode cX5_countFewest 19 = .ok (.iconst 0, 1) := by decide +kernel
theorem dX5_countFewest_20 : decode cX5_countFewest 20 = .ok (.iastore, 1) := by decide +kernel
theorem dX5_countFewest_21 : decode cX5_countFewest 21 = .ok (.iconst 0, 1) := by decide +kernel
theorem dX5_countFewest_22 : decode cX5_countFewest 22 = .ok (.istore_n 1, 1) := by decide +kernel
theorem dX5_countFewest_23 : decode cX5_countFewest 23 = .ok (.iload_n 1, 1) := by decide +kernel
theorem dX5_countFewest_24 : decode cX5_countFewest 24 = .ok (.aload_n 0, 1) := by decide +kernel
theorem dX5_countFewest_25 : decode cX5_countFewest 25 = .ok (.getfield 12, 3) := by decide +kernel
theorem dX5_countFewest_28 : decode cX5_countFewest 28 = .ok (.getfield 67, 3) := by decide +kernel
theorem dX5_countFewest_31 : decode cX5_countFewest 31 = .ok (.if_icmp .ge 91, 3) := by decide +kernel
theorem dX5_countFewest_34 : decode cX5_countFewest 34 = .ok (.iconst 0, 1) := by decide +kernel
theorem dX5_countFewest_35 : decode cX5_countFewest 35 = .ok (.istore_n 2, 1) := by decide +kernel
theorem dX5_countFewest_36 : decode cX5_countFewest 36 = .ok (.iload_n 2, 1) := by decide +kernel
theorem dX5_countFewest_37 : decode cX5_countFewest 37 = .ok (.sipush 252, 3) := by decide +kernel
theorem dX5_countFewest_40 : decode cX5_countFewest 40 = .ok (.if_icmp .gt 76, 3) := by decide +kernel
theorem dX5_countFewest_43 : decode cX5_countFewest 43 = .ok (.iload_n 2, 1) := by decide +kernel
theorem dX5_countFewest_44 : decode cX5_countFewest 44 = .ok (.aload_n 0, 1) := by decide +kernel
theorem dX5_countFewest_45 : decode cX5_countFewest 45 = .ok (.getfield 12, 3) := by decide +kernel
theorem dX5_countFewest_48 : decode cX5_countFewest 48 = .ok (.getfield 78, 3) := by decide +kernel
theorem dX5_countFewest_51 : decode cX5_countFewest 51 = .ok (.iload_n 1, 1) := by decide +kernel
theorem dX5_countFewest_52 : decode cX5_countFewest 52 = .ok (.iaload, 1) := by decide +kernel
theorem dX5_countFewest_53 : decode cX5_countFewest 53 = .ok (.isub, 1) := by decide +kernel
theorem dX5_countFewest_54 : decode cX5_countFewest 54 = .ok (.istore_n 3, 1) := by decide +kernel
theorem dX5_countFewest_55 : decode cX5_countFewest 55 = .ok (.bipush 99, 2) := by decide +kernel
theorem dX5_countFewest_57 : decode cX5_countFewest 57 = .ok (.istore 4, 2) := by decide +kernel
theorem dX5_countFewest_59 : decode cX5_countFewest 59 = .ok (.iload_n 3, 1) := by decide +kernel
theorem dX5_countFewest_60 : decode cX5_countFewest 60 = .ok (.iconst 0, 1) := by decide +kernel
theorem dX5_countFewest_61 : decode cX5_countFewest 61 = .ok (.sipush 252, 3) := by decide +kernel
theorem dX5_countFewest_64 : decode cX5_countFewest 64 = .ok (.invokestatic 56, 3) := by decide +kernel
theorem dX5_countFewest_67 : decode cX5_countFewest 67 = .ok (.ifCond .ne 15, 3) := by decide +kernel
theorem dX5_countFewest_70 : decode cX5_countFewest 70 = .ok (.aload_n 0, 1) := by decide +kernel
theorem dX5_countFewest_71 : decode cX5_countFewest 71 = .ok (.getfield 45, 3) := by decide +kernel
theorem dX5_countFewest_74 : decode cX5_countFewest 74 = .ok (.iload_n 1, 1) := by decide +kernel
theorem dX5_countFewest_75 : decode cX5_countFewest 75 = .ok (.aaload, 1) := by decide +kernel
theorem dX5_countFewest_76 : decode cX5_countFewest 76 = .ok (.iload_n 3, 1) := by decide +kernel
theorem dX5_countFewest_77 : decode cX5_countFewest 77 = .ok (.iaload, 1) := by decide +kernel
theorem dX5_countFewest_78 : decode cX5_countFewest 78 = .ok (.iconst 1, 1) := by decide +kernel
theorem dX5_countFewest_79 : decode cX5_countFewest 79 = .ok (.iadd, 1) := by decide +kernel
theorem dX5_countFewest_80 : decode cX5_countFewest 80 = .ok (.istore 4, 2) := by decide +kernel
theorem dX5_countFewest_82 : decode cX5_countFewest 82 = .ok (.aload_n 0, 1) := by decide +kernel
theorem dX5_countFewest_83 : decode cX5_countFewest 83 = .ok (.getfield 45, 3) := by decide +kernel
theorem dX5_countFewest_86 : decode cX5_countFewest 86 = .ok (.iload_n 1, 1) := by decide +kernel
theorem dX5_countFewest_87 : decode cX5_countFewest 87 = .ok (.iconst 1, 1) := by decide +kernel
theorem dX5_countFewest_88 : decode cX5_countFewest 88 = .ok (.iadd, 1) := by decide +kernel
theorem dX5_countFewest_89 : decode cX5_countFewest 89 = .ok (.aaload, 1) := by decide +kernel
theorem dX5_countFewest_90 : decode cX5_countFewest 90 = .ok (.iload_n 2, 1) := by decide +kernel
theorem dX5_countFewest_91 : decode cX5_countFewest 91 = .ok (.bipush 99, 2) := by decide +kernel
theorem dX5_countFewest_93 : decode cX5_countFewest 93 = .ok (.iload 4, 2) := by decide +kernel
theorem dX5_countFewest_95 : decode cX5_countFewest 95 = .ok (.aload_n 0, 1) := by decide +kernel
theorem dX5_countFewest_96 : decode cX5_countFewest 96 = .ok (.getfield 45, 3) := by decide +kernel
theorem dX5_countFewest_99 : decode cX5_countFewest 99 = .ok (.iload_n 1, 1) := by decide +kernel
theorem dX5_countFewest_100 : decode cX5_countFewest 100 = .ok (.aaload, 1) := by decide +kernel
theorem dX5_countFewest_101 : decode cX5_countFewest 101 = .ok (.iload_n 2, 1) := by decide +kernel
theorem dX5_countFewest_102 : decode cX5_countFewest 102 = .ok (.iaload, 1) := by decide +kernel
theorem dX5_countFewest_103 : decode cX5_countFewest 103 = .ok (.invokestatic 246, 3) := by decide +kernel
theorem dX5_countFewest_106 : decode cX5_countFewest 106 = .ok (.invokestatic 246, 3) := by decide +kernel
theorem dX5_countFewest_109 : decode cX5_countFewest 109 = .ok (.iastore, 1) := by decide +kernel
theorem dX5_countFewest_110 : decode cX5_countFewest 110 = .ok (.iinc 2 1, 3) := by decide +kernel
theorem dX5_countFewest_113 : decode cX5_countFewest 113 = .ok (.goto (-77), 3) := by decide +kernel
theorem dX5_countFewest_116 : decode cX5_countFewest 116 = .ok (.iinc 1 1, 3) := by decide +kernel
theorem dX5_countFewest_119 : decode cX5_countFewest 119 = .ok (.goto (-96), 3) := by decide +kernel
theorem dX5_countFewest_122 : decode cX5_countFewest 122 = .ok (.return_, 1) := by decide +kernel
set_option maxRecDepth 20000 in
theorem ggX5_leastSet_X5_isOutside : GoodIn wsX5_leastSet wsX5_isOutside := goodIn_r _ [6] (by decide +kernel) (by decide +kernel)
set_option maxRecDepth 20000 in
theorem gX5_leastSet_X5_isOutside : GoodIn wsX5_leastSet (va_wsS RX5 56 yX5_isOutside wsX5_isOutside) := goodIn_app (goodIn_of _ (by decide +kernel)) ggX5_leastSet_X5_isOutside
theorem dX5_leastSet_0 : decode cX5_leastSet 0 = .ok (.iconst 0, 1) := by decide +kernel
theorem dX5_leastSet_1 : decode cX5_leastSet 1 = .ok (.istore_n 2, 1) := by decide +kernel
theorem dX5_leastSet_2 : decode cX5_leastSet 2 = .ok (.bipush 126, 2) := by decide +kernel
theorem dX5_leastSet_4 : decode cX5_leastSet 4 = .ok (.iload_n 1, 1) := by decide +kernel
theorem dX5_leastSet_5 : decode cX5_leastSet 5 = .ok (.iadd, 1) := by decide +kernel
theorem dX5_leastSet_6 : decode cX5_leastSet 6 = .ok (.istore_n 3, 1) := by decide +kernel
theorem dX5_leastSet_7 : decode cX5_leastSet 7 = .ok (.aload_n 0, 1) := by decide +kernel
theorem dX5_leastSet_8 : decode cX5_leastSet 8 = .ok (.getfield 12, 3) := by decide +kernel
theorem dX5_leastSet_11 : decode cX5_leastSet 11 = .ok (.getfield 67, 3) := by decide +kernel
theorem dX5_leastSet_14 : decode cX5_leastSet 14 = .ok (.iconst 1, 1) := by decide +kernel
theorem dX5_leastSet_15 : decode cX5_leastSet 15 = .ok (.isub, 1) := by decide +kernel
theorem dX5_leastSet_16 : decode cX5_leastSet 16 = .ok (.istore 4, 2) := by decide +kernel
theorem dX5_leastSet_18 : decode cX5_leastSet 18 = .ok (.iload 4, 2) := by decide +kernel
theorem dX5_leastSet_20 : decode cX5_leastSet 20 = .ok (.ifCond .lt 63, 3) := by decide +kernel
theorem dX5_leastSet_23 : decode cX5_leastSet 23 = .ok (.iload_n 3, 1) := by decide +kernel
theorem dX5_leastSet_24 : decode cX5_leastSet 24 = .ok (.iconst 0, 1) := by decide +kernel
theorem dX5_leastSet_25 : decode cX5_leastSet 25 = .ok (.sipush 252, 3) := by decide +kernel
theorem dX5_leastSet_28 : decode cX5_leastSet 28 = .ok (.invokestatic 56, 3) := by decide +kernel
theorem dX5_leastSet_31 : decode cX5_leastSet 31 = .ok (.ifCond .ne 52, 3) := by decide +kernel
theorem dX5_leastSet_34 : decode cX5_leastSet 34 = .ok (.aload_n 0, 1) := by decide +kernel
theorem dX5_leastSet_35 : decode cX5_leastSet 35 = .ok (.getfield 45, 3) := by decide +kernel
theorem dX5_leastSet_38 : decode cX5_leastSet 38 = .ok (.iload 4, 2) := by decide +kernel
theorem dX5_leastSet_40 : decode cX5_leastSet 40 = .ok (.aaload, 1) := by decide +kernel
theorem dX5_leastSet_41 : decode cX5_leastSet 41 = .ok (.iload_n 3, 1) := by decide +kernel
theorem dX5_leastSet_42 : decode cX5_leastSet 42 = .ok (.iaload, 1) := by decide +kernel
theorem dX5_leastSet_43 : decode cX5_leastSet 43 = .ok (.aload_n 0, 1) := by decide +kernel
theorem dX5_leastSet_44 : decode cX5_leastSet 44 = .ok (.getfield 45, 3) := by decide +kernel
theorem dX5_leastSet_47 : decode cX5_leastSet 47 = .ok (.iload 4, 2) := by decide +kernel
theorem dX5_leastSet_49 : decode cX5_leastSet 49 = .ok (.iconst 1, 1) := by decide +kernel
theorem dX5_leastSet_50 : decode cX5_leastSet 50 = .ok (.iadd, 1) := by decide +kernel
theorem dX5_leastSet_51 : decode cX5_leastSet 51 = .ok (.aaload, 1) := by decide +kernel
theorem dX5_leastSet_52 : decode cX5_leastSet 52 = .ok (.iload_n 3, 1) := by decide +kernel
theorem dX5_leastSet_53 : decode cX5_leastSet 53 = .ok (.iaload, 1) := by decide +kernel
theorem dX5_leastSet_54 : decode cX5_leastSet 54 = .ok (.if_icmp .eq 23, 3) := by decide +kernel
theorem dX5_leastSet_57 : decode cX5_leastSet 57 = .ok (.iload_n 2, 1) := by decide +kernel
theorem dX5_leastSet_58 : decode cX5_leastSet 58 = .ok (.iconst 1, 1) := by decide +kernel
theorem dX5_leastSet_59 : decode cX5_leastSet 59 = .ok (.iload 4, 2) := by decide +kernel
theorem dX5_leastSet_61 : decode cX5_leastSet 61 = .ok (.ishl, 1) := by decide +kernel
theorem dX5_leastSet_62 : decode cX5_leastSet 62 = .ok (.ior, 1) := by decide +kernel
theorem dX5_leastSet_63 : decode cX5_leastSet 63 = .ok (.istore_n 2, 1) := by decide +kernel
theorem dX5_leastSet_64 : decode cX5_leastSet 64 = .ok (.iload_n 3, 1) := by decide +kernel
theorem dX5_leastSet_65 : decode cX5_leastSet 65 = .ok (.aload_n 0, 1) := by decide +kernel
theorem dX5_leastSet_66 : decode cX5_leastSet 66 = .ok (.getfield 12, 3) := by decide +kernel
theorem dX5_leastSet_69 : decode cX5_leastSet 69 = .ok (.getfield 78, 3) := by decide +kernel
theorem dX5_leastSet_72 : decode cX5_leastSet 72 = .ok (.iload 4, 2) := by decide +kernel
theorem dX5_leastSet_74 : decode cX5_leastSet 74 = .ok (.iaload, 1) := by decide +kernel
theorem dX5_leastSet_75 : decode cX5_leastSet 75 = .ok (.isub, 1) := by decide +kernel
theorem dX5_leastSet_76 : decode cX5_leastSet 76 = .ok (.istore_n 3, 1) := by decide +kernel
theorem dX5_leastSet_77 : decode cX5_leastSet 77 = .ok (.iinc 4 (-1), 3) := by decide +kernel
theorem dX5_leastSet_80 : decode cX5_leastSet 80 = .ok (.goto (-62), 3) := by decide +kernel
theorem dX5_leastSet_83 : decode cX5_leastSet 83 = .ok (.iload_n 2, 1) := by decide +kernel
theorem dX5_leastSet_84 : decode cX5_leastSet 84 = .ok (.ireturn, 1) := by decide +kernel
theorem dX5_isOutside_0 : decode cX5_isOutside 0 = .ok (.iload_n 0, 1) := by decide +kernel
theorem dX5_isOutside_1 : decode cX5_isOutside 1 = .ok (.iload_n 1, 1) := by decide +kernel
theorem dX5_isOutside_2 : decode cX5_isOutside 2 = .ok (.if_icmp .lt 8, 3) := by decide +kernel
theorem dX5_isOutside_5 : decode cX5_isOutside 5 = .ok (.iload_n 0, 1) := by decide +kernel
theorem dX5_isOutside_6 : decode cX5_isOutside 6 = .ok (.iload_n 2, 1) := by decide +kernel
theorem dX5_isOutside_7 : decode cX5_isOutside 7 = .ok (.if_icmp .le 7, 3) := by decide +kernel
theorem dX5_isOutside_10 : decode cX5_isOutside 10 = .ok (.iconst 1, 1) := by decide +kernel
theorem dX5_isOutside_11 : decode cX5_isOutside 11 = .ok (.goto 4, 3) := by decide +kernel
theorem dX5_isOutside_14 : decode cX5_isOutside 14 = .ok (.iconst 0, 1) := by decide +kernel
theorem dX5_isOutside_15 : decode cX5_isOutside 15 = .ok (.ireturn, 1) := by decide +kernel
theorem dX5_isMultiple_0 : decode cX5_isMultiple 0 = .ok (.iload_n 1, 1) := by decide +kernel
theorem dX5_isMultiple_1 : decode cX5_isMultiple 1 = .ok (.ifCond .eq 13, 3) := by decide +kernel
theorem dX5_isMultiple_4 : decode cX5_isMultiple 4 = .ok (.iload_n 0, 1) := by decide +kernel
theorem dX5_isMultiple_5 : decode cX5_isMultiple 5 = .ok (.iload_n 1, 1) := by decide +kernel
theorem dX5_isMultiple_6 : decode cX5_isMultiple 6 = .ok (.irem, 1) := by decide +kernel
theorem dX5_isMultiple_7 : decode cX5_isMultiple 7 = .ok (.ifCond .ne 7, 3) := by decide +kernel
theorem dX5_isMultiple_10 : decode cX5_isMultiple 10 = .ok (.iconst 1, 1) := by decide +kernel
theorem dX5_isMultiple_11 : decode cX5_isMultiple 11 = .ok (.goto 4, 3) := by decide +kernel
theorem dX5_isMultiple_14 : decode cX5_isMultiple 14 = .ok (.iconst 0, 1) := by decide +kernel
theorem dX5_isMultiple_15 : decode cX5_isMultiple 15 = .ok (.ireturn, 1) := by decide +kernel
theorem dX5_held_0 : decode cX5_held 0 = .ok (.iload_n 1, 1) := by decide +kernel
theorem dX5_held_1 : decode cX5_held 1 = .ok (.iload_n 2, 1) := by decide +kernel
theorem dX5_held_2 : decode cX5_held 2 = .ok (.iload_n 0, 1) := by decide +kernel
theorem dX5_held_3 : decode cX5_held 3 = .ok (.invokestatic 246, 3) := by decide +kernel
theorem dX5_held_6 : decode cX5_held 6 = .ok (.invokestatic 267, 3) := by decide +kernel
theorem dX5_held_9 : decode cX5_held 9 = .ok (.ireturn, 1) := by decide +kernel
theorem dX5_inLowestTerms_0 : decode cX5_inLowestTerms 0 = .ok (.iload_n 1, 1) := by decide +kernel
theorem dX5_inLowestTerms_1 : decode cX5_inLowestTerms 1 = .ok (.istore_n 3, 1) := by decide +kernel
theorem dX5_inLowestTerms_2 : decode cX5_inLowestTerms 2 = .ok (.iload_n 3, 1) := by decide +kernel
theorem dX5_inLowestTerms_3 : decode cX5_inLowestTerms 3 = .ok (.iconst 1, 1) := by decide +kernel
theorem dX5_inLowestTerms_4 : decode cX5_inLowestTerms 4 = .ok (.if_icmp .le 33, 3) := by decide +kernel
theorem dX5_inLowestTerms_7 : decode cX5_inLowestTerms 7 = .ok (.iload_n 0, 1) := by decide +kernel
theorem dX5_inLowestTerms_8 : decode cX5_inLowestTerms 8 = .ok (.iload_n 3, 1) := by decide +kernel
theorem dX5_inLowestTerms_9 : decode cX5_inLowestTerms 9 = .ok (.irem, 1) := by decide +kernel
theorem dX5_inLowestTerms_10 : decode cX5_inLowestTerms 10 = .ok (.ifCond .ne 21, 3) := by decide +kernel
theorem dX5_inLowestTerms_13 : decode cX5_inLowestTerms 13 = .ok (.iload_n 1, 1) := by decide +kernel
theorem dX5_inLowestTerms_14 : decode cX5_inLowestTerms 14 = .ok (.iload_n 3, 1) := by decide +kernel
theorem dX5_inLowestTerms_15 : decode cX5_inLowestTerms 15 = .ok (.irem, 1) := by decide +kernel
theorem dX5_inLowestTerms_16 : decode cX5_inLowestTerms 16 = .ok (.ifCond .ne 15, 3) := by decide +kernel
theorem dX5_inLowestTerms_19 : decode cX5_inLowestTerms 19 = .ok (.iload_n 2, 1) := by decide +kernel
theorem dX5_inLowestTerms_20 : decode cX5_inLowestTerms 20 = .ok (.ifCond .ne 7, 3) := by decide +kernel
theorem dX5_inLowestTerms_23 : decode cX5_inLowestTerms 23 = .ok (.iload_n 0, 1) := by decide +kernel
theorem dX5_inLowestTerms_24 : decode cX5_inLowestTerms 24 = .ok (.goto 4, 3) := by decide +kernel
theorem dX5_inLowestTerms_27 : decode cX5_inLowestTerms 27 = .ok (.iload_n 1, 1) := by decide +kernel
theorem dX5_inLowestTerms_28 : decode cX5_inLowestTerms 28 = .ok (.iload_n 3, 1) := by decide +kernel
theorem dX5_inLowestTerms_29 : decode cX5_inLowestTerms 29 = .ok (.idiv, 1) := by decide +kernel
theorem dX5_inLowestTerms_30 : decode cX5_inLowestTerms 30 = .ok (.ireturn, 1) := by decide +kernel
theorem dX5_inLowestTerms_31 : decode cX5_inLowestTerms 31 = .ok (.iinc 3 (-1), 3) := by decide +kernel
theorem dX5_inLowestTerms_34 : decode cX5_inLowestTerms 34 = .ok (.goto (-32), 3) := by decide +kernel
theorem dX5_inLowestTerms_37 : decode cX5_inLowestTerms 37 = .ok (.iload_n 2, 1) := by decide +kernel
theorem dX5_inLowestTerms_38 : decode cX5_inLowestTerms 38 = .ok (.ifCond .ne 7, 3) := by decide +kernel
theorem dX5_inLowestTerms_41 : decode cX5_inLowestTerms 41 = .ok (.iload_n 0, 1) := by decide +kernel
theorem dX5_inLowestTerms_42 : decode cX5_inLowestTerms 42 = .ok (.goto 4, 3) := by decide +kernel
theorem dX5_inLowestTerms_45 : decode cX5_inLowestTerms 45 = .ok (.iload_n 1, 1) := by decide +kernel
theorem dX5_inLowestTerms_46 : decode cX5_inLowestTerms 46 = .ok (.ireturn, 1) := by decide +kernel
set_option maxRecDepth 20000 in
theorem ggX5_isUnder_X5_isOutside : GoodIn wsX5_isUnder wsX5_isOutside := goodIn_r _ [5] (by decide +kernel) (by decide +kernel)
set_option maxRecDepth 20000 in
theorem gX5_isUnder_X5_isOutside : GoodIn wsX5_isUnder (va_wsS RX5 56 yX5_isOutside wsX5_isOutside) := goodIn_app (goodIn_of _ (by decide +kernel)) ggX5_isUnder_X5_isOutside
theorem dX5_isUnder_0 : decode cX5_isUnder 0 = .ok (.iload_n 0, 1) := by decide +kernel
theorem dX5_isUnder_1 : decode cX5_isUnder 1 = .ok (.istore_n 2, 1) := by decide +kernel
theorem dX5_isUnder_2 : decode cX5_isUnder 2 = .ok (.iconst 0, 1) := by decide +kernel
theorem dX5_isUnder_3 : decode cX5_isUnder 3 = .ok (.istore_n 3, 1) := by decide +kernel
theorem dX5_isUnder_4 : decode cX5_isUnder 4 = .ok (.iload_n 3, 1) := by decide +kernel
theorem dX5_isUnder_5 : decode cX5_isUnder 5 = .ok (.bipush 7, 2) := by decide +kernel
theorem dX5_isUnder_7 : decode cX5_isUnder 7 = .ok (.if_icmp .ge 32, 3) := by decide +kernel
theorem dX5_isUnder_10 : decode cX5_isUnder 10 = .ok (.iload_n 2, 1) := by decide +kernel
theorem dX5_isUnder_11 : decode cX5_isUnder 11 = .ok (.iconst 0, 1) := by decide +kernel
theorem dX5_isUnder_12 : decode cX5_isUnder 12 = .ok (.bipush 6, 2) := by decide +kernel
theorem dX5_isUnder_14 : decode cX5_isUnder 14 = .ok (.invokestatic 56, 3) := by decide +kernel
theorem dX5_isUnder_17 : decode cX5_isUnder 17 = .ok (.ifCond .ne 22, 3) := by decide +kernel
theorem dX5_isUnder_20 : decode cX5_isUnder 20 = .ok (.iload_n 2, 1) := by decide +kernel
theorem dX5_isUnder_21 : decode cX5_isUnder 21 = .ok (.iload_n 1, 1) := by decide +kernel
theorem dX5_isUnder_22 : decode cX5_isUnder 22 = .ok (.if_icmp .ne 5, 3) := by decide +kernel
theorem dX5_isUnder_25 : decode cX5_isUnder 25 = .ok (.iconst 1, 1) := by decide +kernel
theorem dX5_isUnder_26 : decode cX5_isUnder 26 = .ok (.ireturn, 1) := by decide +kernel
theorem dX5_isUnder_27 : decode cX5_isUnder 27 = .ok (.getstatic 270, 3) := by decide +kernel
theorem dX5_isUnder_30 : decode cX5_isUnder 30 = .ok (.iload_n 2, 1) := by decide +kernel
theorem dX5_isUnder_31 : decode cX5_isUnder 31 = .ok (.iaload, 1) := by decide +kernel
theorem dX5_isUnder_32 : decode cX5_isUnder 32 = .ok (.istore_n 2, 1) := by decide +kernel
theorem dX5_isUnder_33 : decode cX5_isUnder 33 = .ok (.iinc 3 1, 3) := by decide +kernel
theorem dX5_isUnder_36 : decode cX5_isUnder 36 = .ok (.goto (-32), 3) := by decide +kernel
theorem dX5_isUnder_39 : decode cX5_isUnder 39 = .ok (.iconst 0, 1) := by decide +kernel
theorem dX5_isUnder_40 : decode cX5_isUnder 40 = .ok (.ireturn, 1) := by decide +kernel
set_option maxRecDepth 20000 in
theorem ggX6_init_X6_builds : GoodIn wsX6_init wsX6_builds := goodIn_r _ [21, 5, 22, 23, 24, 25, 26, 27, 28, 29, 30, 31, 32, 33, 34, 35, 36, 37, 38, 39, 40, 41] (by decide +kernel) (by decide +kernel)
set_option maxRecDepth 20000 in
theorem gX6_init_X6_builds : GoodIn wsX6_init (wsV RX6 46 RX6 yX6_builds wsX6_builds) := goodIn_app (goodIn_of _ (by decide +kernel)) ggX6_init_X6_builds
theorem dX6_init_0 : decode cX6_init 0 = .ok (.aload_n 0, 1) := by decide +kernel
theorem dX6_init_1 : decode cX6_init 1 = .ok (.invokespecial 1, 3) := by decide +kernel
theorem dX6_init_4 : decode cX6_init 4 = .ok (.aload_n 0, 1) := by decide +kernel
theorem dX6_init_5 : decode cX6_init 5 = .ok (.sipush 380, 3) := by decide +kernel
theorem dX6_init_8 : decode cX6_init 8 = .ok (.newarray .int, 2) := by decide +kernel
theorem dX6_init_10 : decode cX6_init 10 = .ok (.putfield 7, 3) := by decide +kernel
theorem dX6_init_13 : decode cX6_init 13 = .ok (.aload_n 0, 1) := by decide +kernel
theorem dX6_init_14 : decode cX6_init 14 = .ok (.sipush 380, 3) := by decide +kernel
theorem dX6_init_17 : decode cX6_init 17 = .ok (.newarray .int, 2) := by decide +kernel
theorem dX6_init_19 : decode cX6_init 19 = .ok (.putfield 13, 3) := by decide +kernel
theorem dX6_init_22 : decode cX6_init 22 = .ok (.aload_n 0, 1) := by decide +kernel
theorem dX6_init_23 : decode cX6_init 23 = .ok (.bipush 46, 2) := by decide +kernel
theorem dX6_init_25 : decode cX6_init 25 = .ok (.newarray .int, 2) := by decide +kernel
theorem dX6_init_27 : decode cX6_init 27 = .ok (.putfield 16, 3) := by decide +kernel
theorem dX6_init_30 : decode cX6_init 30 = .ok (.aload_n 0, 1) := by decide +kernel
theorem dX6_init_31 : decode cX6_init 31 = .ok (.bipush 7, 2) := by decide +kernel
theorem dX6_init_33 : decode cX6_init 33 = .ok (.newarray .int, 2) := by decide +kernel
theorem dX6_init_35 : decode cX6_init 35 = .ok (.putfield 19, 3) := by decide +kernel
theorem dX6_init_38 : decode cX6_init 38 = .ok (.aload_n 0, 1) := by decide +kernel
theorem dX6_init_39 : decode cX6_init 39 = .ok (.bipush 124, 2) := by decide +kernel
theorem dX6_init_41 : decode cX6_init 41 = .ok (.newarray .int, 2) := by decide +kernel
theorem dX6_init_43 : decode cX6_init 43 = .ok (.putfield 22, 3) := by decide +kernel
theorem dX6_init_46 : decode cX6_init 46 = .ok (.aload_n 0, 1) := by decide +kernel
theorem dX6_init_47 : decode cX6_init 47 = .ok (.sipush 128, 3) := by decide +kernel
theorem dX6_init_50 : decode cX6_init 50 = .ok (.newarray .int, 2) := by decide +kernel
theorem dX6_init_52 : decode cX6_init 52 = .ok (.putfield 25, 3) := by decide +kernel
theorem dX6_init_55 : decode cX6_init 55 = .ok (.aload_n 0, 1) := by decide +kernel
theorem dX6_init_56 : decode cX6_init 56 = .ok (.bipush 64, 2) := by decide +kernel
theorem dX6_init_58 : decode cX6_init 58 = .ok (.newarray .int, 2) := by decide +kernel
theorem dX6_init_60 : decode cX6_init 60 = .ok (.putfield 28, 3) := by decide +kernel
theorem dX6_init_63 : decode cX6_init 63 = .ok (.aload_n 0, 1) := by decide +kernel
theorem dX6_init_64 : decode cX6_init 64 = .ok (.bipush 30, 2) := by decide +kernel
theorem dX6_init_66 : decode cX6_init 66 = .ok (.newarray .int, 2) := by decide +kernel
theorem dX6_init_68 : decode cX6_init 68 = .ok (.putfield 31, 3) := by decide +kernel
theorem dX6_init_71 : decode cX6_init 71 = .ok (.aload_n 0, 1) := by decide +kernel
theorem dX6_init_72 : decode cX6_init 72 = .ok (.iconst 4, 1) := by decide +kernel
theorem dX6_init_73 : decode cX6_init 73 = .ok (.newarray .int, 2) := by decide +kernel
theorem dX6_init_75 : decode cX6_init 75 = .ok (.putfield 34, 3) := by decide +kernel
theorem dX6_init_78 : decode cX6_init 78 = .ok (.aload_n 0, 1) := by decide +kernel
theorem dX6_init_79 : decode cX6_init 79 = .ok (.iconst 4, 1) := by decide +kernel
theorem dX6_init_80 : decode cX6_init 80 = .ok (.newarray .int, 2) := by decide +kernel
theorem dX6_init_82 : decode cX6_init 82 = .ok (.putfield 37, 3) := by decide +kernel
theorem dX6_init_85 : decode cX6_init 85 = .ok (.aload_n 0, 1) := by decide +kernel
theorem dX6_init_86 : decode cX6_init 86 = .ok (.bipush 96, 2) := by decide +kernel
theorem dX6_init_88 : decode cX6_init 88 = .ok (.newarray .int, 2) := by decide +kernel
theorem dX6_init_90 : decode cX6_init 90 = .ok (.putfield 40, 3) := by decide +kernel
theorem dX6_init_93 : decode cX6_init 93 = .ok (.aload_n 0, 1) := by decide +kernel
theorem dX6_init_94 : decode cX6_init 94 = .ok (.bipush 24, 2) := by decide +kernel
theorem dX6_init_96 : decode cX6_init 96 = .ok (.newarray .int, 2) := by decide +kernel
theorem dX6_init_98 : decode cX6_init 98 = .ok (.putfield 43, 3) := by decide +kernel
theorem dX6_init_101 : decode cX6_init 101 = .ok (.aload_n 0, 1) := by decide +kernel
theorem dX6_init_102 : decode cX6_init 102 = .ok (.getfield 7, 3) := by decide +kernel
theorem dX6_init_105 : decode cX6_init 105 = .ok (.iconst 3, 1) := by decide +kernel
theorem dX6_init_106 : decode cX6_init 106 = .ok (.iconst 1, 1) := by decide +kernel
theorem dX6_init_107 : decode cX6_init 107 = .ok (.iastore, 1) := by decide +kernel
theorem dX6_init_108 : decode cX6_init 108 = .ok (.aload_n 0, 1) := by decide +kernel
theorem dX6_init_109 : decode cX6_init 109 = .ok (.bipush 8, 2) := by decide +kernel
theorem dX6_init_111 : decode cX6_init 111 = .ok (.invokevirtual 46, 3) := by decide +kernel
theorem dX6_init_114 : decode cX6_init 114 = .ok (.return_, 1) := by decide +kernel
theorem dX6_error_0 : decode cX6_error 0 = .ok (.aload_n 0, 1) := by decide +kernel
theorem dX6_error_1 : decode cX6_error 1 = .ok (.getfield 19, 3) := by decide +kernel
theorem dX6_error_4 : decode cX6_error 4 = .ok (.iload_n 1, 1) := by decide +kernel
theorem dX6_error_5 : decode cX6_error 5 = .ok (.dup2, 1) := by decide +kernel
theorem dX6_error_6 : decode cX6_error 6 = .ok (.iaload, 1) := by decide +kernel
theorem dX6_error_7 : decode cX6_error 7 = .ok (.iconst 1, 1) := by decide +kernel
theorem dX6_error_8 : decode cX6_error 8 = .ok (.iadd, 1) := by decide +kernel
theorem dX6_error_9 : decode cX6_error 9 = .ok (.iastore, 1) := by decide +kernel
theorem dX6_error_10 : decode cX6_error 10 = .ok (.ldc 50, 2) := by decide +kernel
theorem dX6_error_12 : decode cX6_error 12 = .ok (.iload_n 1, 1) := by decide +kernel
theorem dX6_error_13 : decode cX6_error 13 = .ok (.isub, 1) := by decide +kernel
theorem dX6_error_14 : decode cX6_error 14 = .ok (.ireturn, 1) := by decide +kernel
theorem dX6_in_0 : decode cX6_in 0 = .ok (.iload_n 0, 1) := by decide +kernel
theorem dX6_in_1 : decode cX6_in 1 = .ok (.iload_n 1, 1) := by decide +kernel
theorem dX6_in_2 : decode cX6_in 2 = .ok (.if_icmp .lt 12, 3) := by decide +kernel
theorem dX6_in_5 : decode cX6_in 5 = .ok (.iload_n 0, 1) := by decide +kernel
theorem dX6_in_6 : decode cX6_in 6 = .ok (.iload_n 2, 1) := by decide +kernel
theorem dX6_in_7 : decode cX6_in 7 = .ok (.if_icmp .gt 7, 3) := by decide +kernel
theorem dX6_in_10 : decode cX6_in 10 = .ok (.iconst 1, 1) := by decide +kernel
theorem dX6_in_11 : decode cX6_in 11 = .ok (.goto 4, 3) := by decide +kernel
theorem dX6_in_14 : decode cX6_in 14 = .ok (.iconst 0, 1) := by decide +kernel
theorem dX6_in_15 : decode cX6_in 15 = .ok (.ireturn, 1) := by decide +kernel
theorem dX6_held_0 : decode cX6_held 0 = .ok (.iload_n 0, 1) := by decide +kernel
theorem dX6_held_1 : decode cX6_held 1 = .ok (.iload_n 1, 1) := by decide +kernel
theorem dX6_held_2 : decode cX6_held 2 = .ok (.if_icmp .ge 7, 3) := by decide +kernel
theorem dX6_held_5 : decode cX6_held 5 = .ok (.iload_n 1, 1) := by decide +kernel
theorem dX6_held_6 : decode cX6_held 6 = .ok (.goto 13, 3) := by decide +kernel
theorem dX6_held_9 : decode cX6_held 9 = .ok (.iload_n 0, 1) := by decide +kernel
theorem dX6_held_10 : decode cX6_held 10 = .ok (.iload_n 2, 1) := by decide +kernel
theorem dX6_held_11 : decode cX6_held 11 = .ok (.if_icmp .le 7, 3) := by decide +kernel
theorem dX6_held_14 : decode cX6_held 14 = .ok (.iload_n 2, 1) := by decide +kernel
theorem dX6_held_15 : decode cX6_held 15 = .ok (.goto 4, 3) := by decide +kernel
theorem dX6_held_18 : decode cX6_held 18 = .ok (.iload_n 0, 1) := by decide +kernel
theorem dX6_held_19 : decode cX6_held 19 = .ok (.ireturn, 1) := by decide +kernel
theorem dX6_copyAll_0 : decode cX6_copyAll 0 = .ok (.iconst 0, 1) := by decide +kernel
theorem dX6_copyAll_1 : decode cX6_copyAll 1 = .ok (.istore_n 2, 1) := by decide +kernel
theorem dX6_copyAll_2 : decode cX6_copyAll 2 = .ok (.iload_n 2, 1) := by decide +kernel
theorem dX6_copyAll_3 : decode cX6_copyAll 3 = .ok (.sipush 380, 3) := by decide +kernel
theorem dX6_copyAll_6 : decode cX6_copyAll 6 = .ok (.if_icmp .ge 15, 3) := by decide +kernel
theorem dX6_copyAll_9 : decode cX6_copyAll 9 = .ok (.aload_n 1, 1) := by decide +kernel
theorem dX6_copyAll_10 : decode cX6_copyAll 10 = .ok (.iload_n 2, 1) := by decide +kernel
theorem dX6_copyAll_11 : decode cX6_copyAll 11 = .ok (.aload_n 0, 1) := by decide +kernel
theorem dX6_copyAll_12 : decode cX6_copyAll 12 = .ok (.iload_n 2, 1) := by decide +kernel
theorem dX6_copyAll_13 : decode cX6_copyAll 13 = .ok (.iaload, 1) := by decide +kernel
theorem dX6_copyAll_14 : decode cX6_copyAll 14 = .ok (.iastore, 1) := by decide +kernel
theorem dX6_copyAll_15 : decode cX6_copyAll 15 = .ok (.iinc 2 1, 3) := by decide +kernel
theorem dX6_copyAll_18 : decode cX6_copyAll 18 = .ok (.goto (-16), 3) := by decide +kernel
theorem dX6_copyAll_21 : decode cX6_copyAll 21 = .ok (.return_, 1) := by decide +kernel
theorem dX6_layDown_0 : decode cX6_layDown 0 = .ok (.iconst 0, 1) := by decide +kernel
theorem dX6_layDown_1 : decode cX6_layDown 1 = .ok (.istore_n 1, 1) := by decide +kernel
theorem dX6_layDown_2 : decode cX6_layDown 2 = .ok (.iload_n 1, 1) := by decide +kernel
theorem dX6_layDown_3 : decode cX6_layDown 3 = .ok (.bipush 46, 2) := by decide +kernel
theorem dX6_layDown_5 : decode cX6_layDown 5 = .ok (.if_icmp .ge 21, 3) := by decide +kernel
theorem dX6_layDown_8 : decode cX6_layDown 8 = .ok (.aload_n 0, 1) := by decide +kernel
theorem dX6_layDown_9 : decode cX6_layDown 9 = .ok (.getfield 16, 3) := by decide +kernel
theorem dX6_layDown_12 : decode cX6_layDown 12 = .ok (.iload_n 1, 1) := by decide +kernel
theorem dX6_layDown_13 : decode cX6_layDown 13 = .ok (.aload_n 0, 1) := by decide +kernel
theorem dX6_layDown_14 : decode cX6_layDown 14 = .ok (.getfield 7, 3) := by decide +kernel
theorem dX6_layDown_17 : decode cX6_layDown 17 = .ok (.iload_n 1, 1) := by decide +kernel
theorem dX6_layDown_18 : decode cX6_layDown 18 = .ok (.iaload, 1) := by decide +kernel
theorem dX6_layDown_19 : decode cX6_layDown 19 = .ok (.iastore, 1) := by decide +kernel
theorem dX6_layDown_20 : decode cX6_layDown 20 = .ok (.iinc 1 1, 3) := by decide +kernel
theorem dX6_layDown_23 : decode cX6_layDown 23 = .ok (.goto (-21), 3) := by decide +kernel
theorem dX6_layDown_26 : decode cX6_layDown 26 = .ok (.return_, 1) := by decide +kernel
theorem dX6_layBack_0 : decode cX6_layBack 0 = .ok (.iconst 0, 1) := by decide +kernel
theorem dX6_layBack_1 : decode cX6_layBack 1 = .ok (.istore_n 1, 1) := by decide +kernel
theorem dX6_layBack_2 : decode cX6_layBack 2 = .ok (.iload_n 1, 1) := by decide +kernel
theorem dX6_layBack_3 : decode cX6_layBack 3 = .ok (.bipush 46, 2) := by decide +kernel
theorem dX6_layBack_5 : decode cX6_layBack 5 = .ok (.if_icmp .ge 21, 3) := by decide +kernel
theorem dX6_layBack_8 : decode cX6_layBack 8 = .ok (.aload_n 0, 1) := by decide +kernel
theorem dX6_layBack_9 : decode cX6_layBack 9 = .ok (.getfield 7, 3) := by decide +kernel
theorem dX6_layBack_12 : decode cX6_layBack 12 = .ok (.iload_n 1, 1) := by decide +kernel
theorem dX6_layBack_13 : decode cX6_layBack 13 = .ok (.aload_n 0, 1) := by decide +kernel
theorem dX6_layBack_14 : decode cX6_layBack 14 = .ok (.getfield 16, 3) := by decide +kernel
theorem dX6_layBack_17 : decode cX6_layBack 17 = .ok (.iload_n 1, 1) := by decide +kernel
theorem dX6_layBack_18 : decode cX6_layBack 18 = .ok (.iaload, 1) := by decide +kernel
theorem dX6_layBack_19 : decode cX6_layBack 19 = .ok (.iastore, 1) := by decide +kernel
theorem dX6_layBack_20 : decode cX6_layBack 20 = .ok (.iinc 1 1, 3) := by decide +kernel
theorem dX6_layBack_23 : decode cX6_layBack 23 = .ok (.goto (-21), 3) := by decide +kernel
theorem dX6_layBack_26 : decode cX6_layBack 26 = .ok (.return_, 1) := by decide +kernel
theorem dX6_builds_0 : decode cX6_builds 0 = .ok (.aload_n 0, 1) := by decide +kernel
theorem dX6_builds_1 : decode cX6_builds 1 = .ok (.getfield 7, 3) := by decide +kernel
theorem dX6_builds_4 : decode cX6_builds 4 = .ok (.iconst 1, 1) := by decide +kernel
theorem dX6_builds_5 : decode cX6_builds 5 = .ok (.iload_n 1, 1) := by decide +kernel
theorem dX6_builds_6 : decode cX6_builds 6 = .ok (.iastore, 1) := by decide +kernel
theorem dX6_builds_7 : decode cX6_builds 7 = .ok (.aload_n 0, 1) := by decide +kernel
theorem dX6_builds_8 : decode cX6_builds 8 = .ok (.getfield 7, 3) := by decide +kernel
theorem dX6_builds_11 : decode cX6_builds 11 = .ok (.iconst 2, 1) := by decide +kernel
theorem dX6_builds_12 : decode cX6_builds 12 = .ok (.iconst (-1), 1) := by decide +kernel
theorem dX6_builds_13 : decode cX6_builds 13 = .ok (.iastore, 1) := by decide +kernel
theorem dX6_builds_14 : decode cX6_builds 14 = .ok (.iconst 0, 1) := by decide +kernel
theorem dX6_builds_15 : decode cX6_builds 15 = .ok (.istore_n 2, 1) := by decide +kernel
theorem dX6_builds_16 : decode cX6_builds 16 = .ok (.iload_n 2, 1) := by decide +kernel
theorem dX6_builds_17 : decode cX6_builds 17 = .ok (.bipush 14, 2) := by decide +kernel
theorem dX6_builds_19 : decode cX6_builds 19 = .ok (.if_icmp .ge 19, 3) := by decide +kernel
theorem dX6_builds_22 : decode cX6_builds 22 = .ok (.aload_n 0, 1) := by decide +kernel
theorem dX6_builds_23 : decode cX6_builds 23 = .ok (.getfield 7, 3) := by decide +kernel
theorem dX6_builds_26 : decode cX6_builds 26 = .ok (.bipush 32, 2) := by decide +kernel
theorem dX6_builds_28 : decode cX6_builds 28 = .ok (.iload_n 2, 1) := by decide +kernel
theorem dX6_builds_29 : decode cX6_builds 29 = .ok (.iadd, 1) := by decide +kernel
theorem dX6_builds_30 : decode cX6_builds 30 = .ok (.iconst 1, 1) := by decide +kernel
theorem dX6_builds_31 : decode cX6_builds 31 = .ok (.iastore, 1) := by decide +kernel
theorem dX6_builds_32 : decode cX6_builds 32 = .ok (.iinc 2 1, 3) := by decide +kernel
theorem dX6_builds_35 : decode cX6_builds 35 = .ok (.goto (-19), 3) := by decide +kernel
theorem dX6_builds_38 : decode cX6_builds 38 = .ok (.return_, 1) := by decide +kernel
set_option maxRecDepth 20000 in
theorem ggX6_isStep_X6_in : GoodIn wsX6_isStep wsX6_in := goodIn_r _ [5] (by decide +kernel) (by decide +kernel)
set_option maxRecDepth 20000 in
theorem gX6_isStep_X6_in : GoodIn wsX6_isStep (va_wsS RX6 51 yX6_in wsX6_in) := goodIn_app (goodIn_of _ (by decide +kernel)) ggX6_isStep_X6_in
theorem dX6_isStep_0 : decode cX6_isStep 0 = .ok (.iload_n 1, 1) := by decide +kernel
theorem dX6_isStep_1 : decode cX6_isStep 1 = .ok (.iconst 0, 1) := by decide +kernel
theorem dX6_isStep_2 : decode cX6_isStep 2 = .ok (.aload_n 0, 1) := by decide +kernel
theorem dX6_isStep_3 : decode cX6_isStep 3 = .ok (.getfield 7, 3) := by decide +kernel
theorem dX6_isStep_6 : decode cX6_isStep 6 = .ok (.iconst 1, 1) := by decide +kernel
theorem dX6_isStep_7 : decode cX6_isStep 7 = .ok (.iaload, 1) := by decide +kernel
theorem dX6_isStep_8 : decode cX6_isStep 8 = .ok (.iconst 1, 1) := by decide +kernel
theorem dX6_isStep_9 : decode cX6_isStep 9 = .ok (.isub, 1) := by decide +kernel
theorem dX6_isStep_10 : decode cX6_isStep 10 = .ok (.invokestatic 51, 3) := by decide +kernel
theorem dX6_isStep_13 : decode cX6_isStep 13 = .ok (.ireturn, 1) := by decide +kernel
set_option maxRecDepth 20000 in
theorem ggX6_isClimber_X6_in : GoodIn wsX6_isClimber wsX6_in := goodIn_r _ [5] (by decide +kernel) (by decide +kernel)
set_option maxRecDepth 20000 in
theorem gX6_isClimber_X6_in : GoodIn wsX6_isClimber (va_wsS RX6 51 yX6_in wsX6_in) := goodIn_app (goodIn_of _ (by decide +kernel)) ggX6_isClimber_X6_in
theorem dX6_isClimber_0 : decode cX6_isClimber 0 = .ok (.iload_n 1, 1) := by decide +kernel
theorem dX6_isClimber_1 : decode cX6_isClimber 1 = .ok (.iconst 0, 1) := by decide +kernel
theorem dX6_isClimber_2 : decode cX6_isClimber 2 = .ok (.aload_n 0, 1) := by decide +kernel
theorem dX6_isClimber_3 : decode cX6_isClimber 3 = .ok (.getfield 7, 3) := by decide +kernel
theorem dX6_isClimber_6 : decode cX6_isClimber 6 = .ok (.bipush 6, 2) := by decide +kernel
theorem dX6_isClimber_8 : decode cX6_isClimber 8 = .ok (.iaload, 1) := by decide +kernel
theorem dX6_isClimber_9 : decode cX6_isClimber 9 = .ok (.iconst 1, 1) := by decide +kernel
theorem dX6_isClimber_10 : decode cX6_isClimber 10 = .ok (.isub, 1) := by decide +kernel
theorem dX6_isClimber_11 : decode cX6_isClimber 11 = .ok (.invokestatic 51, 3) := by decide +kernel
theorem dX6_isClimber_14 : decode cX6_isClimber 14 = .ok (.ireturn, 1) := by decide +kernel
theorem dX6_its_0 : decode cX6_its 0 = .ok (.aload_n 0, 1) := by decide +kernel
theorem dX6_its_1 : decode cX6_its 1 = .ok (.getfield 7, 3) := by decide +kernel
theorem dX6_its_4 : decode cX6_its 4 = .ok (.bipush 8, 2) := by decide +kernel
theorem dX6_its_6 : decode cX6_its 6 = .ok (.iconst 4, 1) := by decide +kernel
theorem dX6_its_7 : decode cX6_its 7 = .ok (.iload_n 1, 1) := by decide +kernel
theorem dX6_its_8 : decode cX6_its 8 = .ok (.imul, 1) := by decide +kernel
theorem dX6_its_9 : decode cX6_its 9 = .ok (.iadd, 1) := by decide +kernel
theorem dX6_its_10 : decode cX6_its 10 = .ok (.iload_n 2, 1) := by decide +kernel
theorem dX6_its_11 : decode cX6_its 11 = .ok (.iadd, 1) := by decide +kernel
theorem dX6_its_12 : decode cX6_its 12 = .ok (.iaload, 1) := by decide +kernel
theorem dX6_its_13 : decode cX6_its 13 = .ok (.ireturn, 1) := by decide +kernel
theorem dX6_lays1_0 : decode cX6_lays1 0 = .ok (.aload_n 0, 1) := by decide +kernel
theorem dX6_lays1_1 : decode cX6_lays1 1 = .ok (.getfield 7, 3) := by decide +kernel
theorem dX6_lays1_4 : decode cX6_lays1 4 = .ok (.bipush 8, 2) := by decide +kernel
theorem dX6_lays1_6 : decode cX6_lays1 6 = .ok (.iconst 4, 1) := by decide +kernel
