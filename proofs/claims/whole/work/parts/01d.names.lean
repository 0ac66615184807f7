theorem dX6_worked_46 : decode cX6_worked 46 = .ok (.iconst 2, 1) := by decide +kernel
theorem dX6_worked_47 : decode cX6_worked 47 = .ok (.iload 4, 2) := by decide +kernel
theorem dX6_worked_49 : decode cX6_worked 49 = .ok (.imul, 1) := by decide +kernel
theorem dX6_worked_50 : decode cX6_worked 50 = .ok (.iadd, 1) := by decide +kernel
theorem dX6_worked_51 : decode cX6_worked 51 = .ok (.iaload, 1) := by decide +kernel
theorem dX6_worked_52 : decode cX6_worked 52 = .ok (.istore 6, 2) := by decide +kernel
theorem dX6_worked_54 : decode cX6_worked 54 = .ok (.iload 5, 2) := by decide +kernel
theorem dX6_worked_56 : decode cX6_worked 56 = .ok (.ifCond .eq 9, 3) := by decide +kernel
theorem dX6_worked_59 : decode cX6_worked 59 = .ok (.iload 5, 2) := by decide +kernel
theorem dX6_worked_61 : decode cX6_worked 61 = .ok (.iconst 1, 1) := by decide +kernel
theorem dX6_worked_62 : decode cX6_worked 62 = .ok (.if_icmp .ne 32, 3) := by decide +kernel
theorem dX6_worked_65 : decode cX6_worked 65 = .ok (.aload_n 0, 1) := by decide +kernel
theorem dX6_worked_66 : decode cX6_worked 66 = .ok (.getfield 28, 3) := by decide +kernel
theorem dX6_worked_69 : decode cX6_worked 69 = .ok (.iload_n 3, 1) := by decide +kernel
theorem dX6_worked_70 : decode cX6_worked 70 = .ok (.iload 5, 2) := by decide +kernel
theorem dX6_worked_72 : decode cX6_worked 72 = .ok (.ifCond .ne 8, 3) := by decide +kernel
theorem dX6_worked_75 : decode cX6_worked 75 = .ok (.iload 6, 2) := by decide +kernel
theorem dX6_worked_77 : decode cX6_worked 77 = .ok (.goto 10, 3) := by decide +kernel
theorem dX6_worked_80 : decode cX6_worked 80 = .ok (.aload_n 0, 1) := by decide +kernel
theorem dX6_worked_81 : decode cX6_worked 81 = .ok (.getfield 25, 3) := by decide +kernel
theorem dX6_worked_84 : decode cX6_worked 84 = .ok (.iload 6, 2) := by decide +kernel
theorem dX6_worked_86 : decode cX6_worked 86 = .ok (.iaload, 1) := by decide +kernel
theorem dX6_worked_87 : decode cX6_worked 87 = .ok (.iastore, 1) := by decide +kernel
theorem dX6_worked_88 : decode cX6_worked 88 = .ok (.iinc 3 1, 3) := by decide +kernel
theorem dX6_worked_91 : decode cX6_worked 91 = .ok (.goto 66, 3) := by decide +kernel
theorem dX6_worked_94 : decode cX6_worked 94 = .ok (.iload 5, 2) := by decide +kernel
theorem dX6_worked_96 : decode cX6_worked 96 = .ok (.iconst 2, 1) := by decide +kernel
theorem dX6_worked_97 : decode cX6_worked 97 = .ok (.if_icmp .ne 30, 3) := by decide +kernel
theorem dX6_worked_100 : decode cX6_worked 100 = .ok (.aload_n 0, 1) := by decide +kernel
theorem dX6_worked_101 : decode cX6_worked 101 = .ok (.getfield 28, 3) := by decide +kernel
theorem dX6_worked_104 : decode cX6_worked 104 = .ok (.iload_n 3, 1) := by decide +kernel
theorem dX6_worked_105 : decode cX6_worked 105 = .ok (.iconst 1, 1) := by decide +kernel
theorem dX6_worked_106 : decode cX6_worked 106 = .ok (.isub, 1) := by decide +kernel
theorem dX6_worked_107 : decode cX6_worked 107 = .ok (.aload_n 0, 1) := by decide +kernel
theorem dX6_worked_108 : decode cX6_worked 108 = .ok (.getfield 28, 3) := by decide +kernel
theorem dX6_worked_111 : decode cX6_worked 111 = .ok (.iload_n 3, 1) := by decide +kernel
theorem dX6_worked_112 : decode cX6_worked 112 = .ok (.iconst 1, 1) := by decide +kernel
theorem dX6_worked_113 : decode cX6_worked 113 = .ok (.isub, 1) := by decide +kernel
theorem dX6_worked_114 : decode cX6_worked 114 = .ok (.iaload, 1) := by decide +kernel
theorem dX6_worked_115 : decode cX6_worked 115 = .ok (.ifCond .ne 7, 3) := by decide +kernel
theorem dX6_worked_118 : decode cX6_worked 118 = .ok (.iconst 1, 1) := by decide +kernel
theorem dX6_worked_119 : decode cX6_worked 119 = .ok (.goto 4, 3) := by decide +kernel
theorem dX6_worked_122 : decode cX6_worked 122 = .ok (.iconst 0, 1) := by decide +kernel
theorem dX6_worked_123 : decode cX6_worked 123 = .ok (.iastore, 1) := by decide +kernel
theorem dX6_worked_124 : decode cX6_worked 124 = .ok (.goto 33, 3) := by decide +kernel
theorem dX6_worked_127 : decode cX6_worked 127 = .ok (.iinc 3 (-1), 3) := by decide +kernel
theorem dX6_worked_130 : decode cX6_worked 130 = .ok (.aload_n 0, 1) := by decide +kernel
theorem dX6_worked_131 : decode cX6_worked 131 = .ok (.getfield 28, 3) := by decide +kernel
theorem dX6_worked_134 : decode cX6_worked 134 = .ok (.iload_n 3, 1) := by decide +kernel
theorem dX6_worked_135 : decode cX6_worked 135 = .ok (.iconst 1, 1) := by decide +kernel
theorem dX6_worked_136 : decode cX6_worked 136 = .ok (.isub, 1) := by decide +kernel
theorem dX6_worked_137 : decode cX6_worked 137 = .ok (.iload 6, 2) := by decide +kernel
theorem dX6_worked_139 : decode cX6_worked 139 = .ok (.aload_n 0, 1) := by decide +kernel
theorem dX6_worked_140 : decode cX6_worked 140 = .ok (.getfield 28, 3) := by decide +kernel
theorem dX6_worked_143 : decode cX6_worked 143 = .ok (.iload_n 3, 1) := by decide +kernel
theorem dX6_worked_144 : decode cX6_worked 144 = .ok (.iconst 1, 1) := by decide +kernel
theorem dX6_worked_145 : decode cX6_worked 145 = .ok (.isub, 1) := by decide +kernel
theorem dX6_worked_146 : decode cX6_worked 146 = .ok (.iaload, 1) := by decide +kernel
theorem dX6_worked_147 : decode cX6_worked 147 = .ok (.aload_n 0, 1) := by decide +kernel
theorem dX6_worked_148 : decode cX6_worked 148 = .ok (.getfield 28, 3) := by decide +kernel
theorem dX6_worked_151 : decode cX6_worked 151 = .ok (.iload_n 3, 1) := by decide +kernel
theorem dX6_worked_152 : decode cX6_worked 152 = .ok (.iaload, 1) := by decide +kernel
theorem dX6_worked_153 : decode cX6_worked 153 = .ok (.invokestatic 111, 3) := by decide +kernel
theorem dX6_worked_156 : decode cX6_worked 156 = .ok (.iastore, 1) := by decide +kernel
theorem dX6_worked_157 : decode cX6_worked 157 = .ok (.iinc 4 1, 3) := by decide +kernel
theorem dX6_worked_160 : decode cX6_worked 160 = .ok (.goto (-147), 3) := by decide +kernel
theorem dX6_worked_163 : decode cX6_worked 163 = .ok (.aload_n 0, 1) := by decide +kernel
theorem dX6_worked_164 : decode cX6_worked 164 = .ok (.getfield 28, 3) := by decide +kernel
theorem dX6_worked_167 : decode cX6_worked 167 = .ok (.iconst 0, 1) := by decide +kernel
theorem dX6_worked_168 : decode cX6_worked 168 = .ok (.iaload, 1) := by decide +kernel
theorem dX6_worked_169 : decode cX6_worked 169 = .ok (.ireturn, 1) := by decide +kernel
set_option maxRecDepth 20000 in
theorem ggX6_goesBy_X6_its : GoodIn wsX6_goesBy wsX6_its := goodIn_r _ [6, 1, 7, 8, 9, 10, 11, 12, 13, 14, 15, 16, 17, 18, 19, 20, 21, 22, 23, 24, 25, 26] (by decide +kernel) (by decide +kernel)
set_option maxRecDepth 20000 in
theorem gX6_goesBy_X6_its : GoodIn wsX6_goesBy (wsV RX6 115 RX6 yX6_its wsX6_its) := goodIn_app (goodIn_of _ (by decide +kernel)) ggX6_goesBy_X6_its
theorem dX6_goesBy_0 : decode cX6_goesBy 0 = .ok (.aload_n 0, 1) := by decide +kernel
theorem dX6_goesBy_1 : decode cX6_goesBy 1 = .ok (.iload_n 1, 1) := by decide +kernel
theorem dX6_goesBy_2 : decode cX6_goesBy 2 = .ok (.iconst 1, 1) := by decide +kernel
theorem dX6_goesBy_3 : decode cX6_goesBy 3 = .ok (.invokevirtual 115, 3) := by decide +kernel
theorem dX6_goesBy_6 : decode cX6_goesBy 6 = .ok (.istore_n 2, 1) := by decide +kernel
theorem dX6_goesBy_7 : decode cX6_goesBy 7 = .ok (.aload_n 0, 1) := by decide +kernel
theorem dX6_goesBy_8 : decode cX6_goesBy 8 = .ok (.iload_n 1, 1) := by decide +kernel
theorem dX6_goesBy_9 : decode cX6_goesBy 9 = .ok (.iconst 0, 1) := by decide +kernel
theorem dX6_goesBy_10 : decode cX6_goesBy 10 = .ok (.invokevirtual 115, 3) := by decide +kernel
theorem dX6_goesBy_13 : decode cX6_goesBy 13 = .ok (.tableswitch 92 1 6 #[39, 45, 47, 39, 66, 73], 39) := by decide +kernel
theorem dX6_goesBy_52 : decode cX6_goesBy 52 = .ok (.iconst 1, 1) := by decide +kernel
theorem dX6_goesBy_53 : decode cX6_goesBy 53 = .ok (.iload_n 2, 1) := by decide +kernel
theorem dX6_goesBy_54 : decode cX6_goesBy 54 = .ok (.iconst 3, 1) := by decide +kernel
theorem dX6_goesBy_55 : decode cX6_goesBy 55 = .ok (.irem, 1) := by decide +kernel
theorem dX6_goesBy_56 : decode cX6_goesBy 56 = .ok (.iadd, 1) := by decide +kernel
theorem dX6_goesBy_57 : decode cX6_goesBy 57 = .ok (.ireturn, 1) := by decide +kernel
theorem dX6_goesBy_58 : decode cX6_goesBy 58 = .ok (.iconst (-1), 1) := by decide +kernel
theorem dX6_goesBy_59 : decode cX6_goesBy 59 = .ok (.ireturn, 1) := by decide +kernel
theorem dX6_goesBy_60 : decode cX6_goesBy 60 = .ok (.aload_n 0, 1) := by decide +kernel
theorem dX6_goesBy_61 : decode cX6_goesBy 61 = .ok (.getfield 7, 3) := by decide +kernel
theorem dX6_goesBy_64 : decode cX6_goesBy 64 = .ok (.iconst 0, 1) := by decide +kernel
theorem dX6_goesBy_65 : decode cX6_goesBy 65 = .ok (.iaload, 1) := by decide +kernel
theorem dX6_goesBy_66 : decode cX6_goesBy 66 = .ok (.iload_n 2, 1) := by decide +kernel
theorem dX6_goesBy_67 : decode cX6_goesBy 67 = .ok (.iconst 1, 1) := by decide +kernel
theorem dX6_goesBy_68 : decode cX6_goesBy 68 = .ok (.iadd, 1) := by decide +kernel
theorem dX6_goesBy_69 : decode cX6_goesBy 69 = .ok (.irem, 1) := by decide +kernel
theorem dX6_goesBy_70 : decode cX6_goesBy 70 = .ok (.ifCond .ne 7, 3) := by decide +kernel
theorem dX6_goesBy_73 : decode cX6_goesBy 73 = .ok (.iconst (-1), 1) := by decide +kernel
theorem dX6_goesBy_74 : decode cX6_goesBy 74 = .ok (.goto 4, 3) := by decide +kernel
theorem dX6_goesBy_77 : decode cX6_goesBy 77 = .ok (.iconst 1, 1) := by decide +kernel
theorem dX6_goesBy_78 : decode cX6_goesBy 78 = .ok (.ireturn, 1) := by decide +kernel
theorem dX6_goesBy_79 : decode cX6_goesBy 79 = .ok (.bipush (-2), 2) := by decide +kernel
theorem dX6_goesBy_81 : decode cX6_goesBy 81 = .ok (.iload_n 2, 1) := by decide +kernel
theorem dX6_goesBy_82 : decode cX6_goesBy 82 = .ok (.iconst 3, 1) := by decide +kernel
theorem dX6_goesBy_83 : decode cX6_goesBy 83 = .ok (.irem, 1) := by decide +kernel
theorem dX6_goesBy_84 : decode cX6_goesBy 84 = .ok (.isub, 1) := by decide +kernel
theorem dX6_goesBy_85 : decode cX6_goesBy 85 = .ok (.ireturn, 1) := by decide +kernel
theorem dX6_goesBy_86 : decode cX6_goesBy 86 = .ok (.aload_n 0, 1) := by decide +kernel
theorem dX6_goesBy_87 : decode cX6_goesBy 87 = .ok (.getfield 7, 3) := by decide +kernel
theorem dX6_goesBy_90 : decode cX6_goesBy 90 = .ok (.iconst 0, 1) := by decide +kernel
theorem dX6_goesBy_91 : decode cX6_goesBy 91 = .ok (.iaload, 1) := by decide +kernel
theorem dX6_goesBy_92 : decode cX6_goesBy 92 = .ok (.iconst 4, 1) := by decide +kernel
theorem dX6_goesBy_93 : decode cX6_goesBy 93 = .ok (.irem, 1) := by decide +kernel
theorem dX6_goesBy_94 : decode cX6_goesBy 94 = .ok (.ifCond .ne 9, 3) := by decide +kernel
theorem dX6_goesBy_97 : decode cX6_goesBy 97 = .ok (.iload_n 2, 1) := by decide +kernel
theorem dX6_goesBy_98 : decode cX6_goesBy 98 = .ok (.iconst 1, 1) := by decide +kernel
theorem dX6_goesBy_99 : decode cX6_goesBy 99 = .ok (.iadd, 1) := by decide +kernel
theorem dX6_goesBy_100 : decode cX6_goesBy 100 = .ok (.goto 4, 3) := by decide +kernel
theorem dX6_goesBy_103 : decode cX6_goesBy 103 = .ok (.iconst 0, 1) := by decide +kernel
theorem dX6_goesBy_104 : decode cX6_goesBy 104 = .ok (.ireturn, 1) := by decide +kernel
theorem dX6_goesBy_105 : decode cX6_goesBy 105 = .ok (.iconst 1, 1) := by decide +kernel
theorem dX6_goesBy_106 : decode cX6_goesBy 106 = .ok (.ireturn, 1) := by decide +kernel
set_option maxRecDepth 20000 in
theorem ggX6_countedTold_X6_hasText : GoodIn wsX6_countedTold wsX6_hasText := goodIn_r _ [6, 7, 19, 20, 21, 22, 23, 24, 25, 26, 27, 28, 29, 30, 31, 32, 33, 34, 35, 36, 37, 38] (by decide +kernel) (by decide +kernel)
set_option maxRecDepth 20000 in
theorem gX6_countedTold_X6_hasText : GoodIn wsX6_countedTold (wsV RX6 108 RX6 yX6_hasText wsX6_hasText) := goodIn_app (goodIn_of _ (by decide +kernel)) ggX6_countedTold_X6_hasText
set_option maxRecDepth 20000 in
theorem ggX6_countedTold_X6_worked : GoodIn wsX6_countedTold wsX6_worked := goodIn_r _ [11, 7, 12, 1, 13, 14, 5, 15, 19, 20, 21, 22, 23, 24, 25, 26, 27, 28, 29, 30, 31, 32, 33, 34, 35, 36, 37, 38] (by decide +kernel) (by decide +kernel)
set_option maxRecDepth 20000 in
theorem gX6_countedTold_X6_worked : GoodIn wsX6_countedTold (wsV RX6 119 RX6 yX6_worked wsX6_worked) := goodIn_app (goodIn_of _ (by decide +kernel)) ggX6_countedTold_X6_worked
set_option maxRecDepth 20000 in
theorem ggX6_countedTold_X6_held : GoodIn wsX6_countedTold wsX6_held := goodIn_r _ [18] (by decide +kernel) (by decide +kernel)
set_option maxRecDepth 20000 in
theorem gX6_countedTold_X6_held : GoodIn wsX6_countedTold (va_wsS RX6 122 yX6_held wsX6_held) := goodIn_app (goodIn_of _ (by decide +kernel)) ggX6_countedTold_X6_held
theorem dX6_countedTold_0 : decode cX6_countedTold 0 = .ok (.aload_n 0, 1) := by decide +kernel
theorem dX6_countedTold_1 : decode cX6_countedTold 1 = .ok (.getfield 25, 3) := by decide +kernel
theorem dX6_countedTold_4 : decode cX6_countedTold 4 = .ok (.bipush 114, 2) := by decide +kernel
theorem dX6_countedTold_6 : decode cX6_countedTold 6 = .ok (.iload_n 1, 1) := by decide +kernel
theorem dX6_countedTold_7 : decode cX6_countedTold 7 = .ok (.iastore, 1) := by decide +kernel
theorem dX6_countedTold_8 : decode cX6_countedTold 8 = .ok (.aload_n 0, 1) := by decide +kernel
theorem dX6_countedTold_9 : decode cX6_countedTold 9 = .ok (.getfield 25, 3) := by decide +kernel
theorem dX6_countedTold_12 : decode cX6_countedTold 12 = .ok (.bipush 115, 2) := by decide +kernel
theorem dX6_countedTold_14 : decode cX6_countedTold 14 = .ok (.iload_n 2, 1) := by decide +kernel
theorem dX6_countedTold_15 : decode cX6_countedTold 15 = .ok (.iastore, 1) := by decide +kernel
theorem dX6_countedTold_16 : decode cX6_countedTold 16 = .ok (.aload_n 0, 1) := by decide +kernel
theorem dX6_countedTold_17 : decode cX6_countedTold 17 = .ok (.getfield 25, 3) := by decide +kernel
theorem dX6_countedTold_20 : decode cX6_countedTold 20 = .ok (.bipush 116, 2) := by decide +kernel
theorem dX6_countedTold_22 : decode cX6_countedTold 22 = .ok (.iload_n 3, 1) := by decide +kernel
theorem dX6_countedTold_23 : decode cX6_countedTold 23 = .ok (.iastore, 1) := by decide +kernel
theorem dX6_countedTold_24 : decode cX6_countedTold 24 = .ok (.aload_n 0, 1) := by decide +kernel
theorem dX6_countedTold_25 : decode cX6_countedTold 25 = .ok (.iconst 0, 1) := by decide +kernel
theorem dX6_countedTold_26 : decode cX6_countedTold 26 = .ok (.invokevirtual 108, 3) := by decide +kernel
theorem dX6_countedTold_29 : decode cX6_countedTold 29 = .ok (.ifCond .eq 11, 3) := by decide +kernel
theorem dX6_countedTold_32 : decode cX6_countedTold 32 = .ok (.aload_n 0, 1) := by decide +kernel
theorem dX6_countedTold_33 : decode cX6_countedTold 33 = .ok (.iconst 0, 1) := by decide +kernel
theorem dX6_countedTold_34 : decode cX6_countedTold 34 = .ok (.invokevirtual 119, 3) := by decide +kernel
theorem dX6_countedTold_37 : decode cX6_countedTold 37 = .ok (.goto 4, 3) := by decide +kernel
theorem dX6_countedTold_40 : decode cX6_countedTold 40 = .ok (.iload_n 1, 1) := by decide +kernel
theorem dX6_countedTold_41 : decode cX6_countedTold 41 = .ok (.bipush (-99), 2) := by decide +kernel
theorem dX6_countedTold_43 : decode cX6_countedTold 43 = .ok (.bipush 99, 2) := by decide +kernel
theorem dX6_countedTold_45 : decode cX6_countedTold 45 = .ok (.invokestatic 122, 3) := by decide +kernel
theorem dX6_countedTold_48 : decode cX6_countedTold 48 = .ok (.ireturn, 1) := by decide +kernel
set_option maxRecDepth 20000 in
theorem ggX6_worthTold_X6_hasText : GoodIn wsX6_worthTold wsX6_hasText := goodIn_r _ [6, 7, 19, 20, 21, 22, 23, 24, 25, 26, 27, 28, 29, 30, 31, 32, 33, 34, 35, 36, 37, 38] (by decide +kernel) (by decide +kernel)
set_option maxRecDepth 20000 in
theorem gX6_worthTold_X6_hasText : GoodIn wsX6_worthTold (wsV RX6 108 RX6 yX6_hasText wsX6_hasText) := goodIn_app (goodIn_of _ (by decide +kernel)) ggX6_worthTold_X6_hasText
set_option maxRecDepth 20000 in
theorem ggX6_worthTold_X6_worked : GoodIn wsX6_worthTold wsX6_worked := goodIn_r _ [11, 7, 12, 1, 13, 14, 5, 15, 19, 20, 21, 22, 23, 24, 25, 26, 27, 28, 29, 30, 31, 32, 33, 34, 35, 36, 37, 38] (by decide +kernel) (by decide +kernel)
set_option maxRecDepth 20000 in
theorem gX6_worthTold_X6_worked : GoodIn wsX6_worthTold (wsV RX6 119 RX6 yX6_worked wsX6_worked) := goodIn_app (goodIn_of _ (by decide +kernel)) ggX6_worthTold_X6_worked
set_option maxRecDepth 20000 in
theorem ggX6_worthTold_X6_held : GoodIn wsX6_worthTold wsX6_held := goodIn_r _ [18] (by decide +kernel) (by decide +kernel)
set_option maxRecDepth 20000 in
theorem gX6_worthTold_X6_held : GoodIn wsX6_worthTold (va_wsS RX6 122 yX6_held wsX6_held) := goodIn_app (goodIn_of _ (by decide +kernel)) ggX6_worthTold_X6_held
theorem dX6_worthTold_0 : decode cX6_worthTold 0 = .ok (.aload_n 0, 1) := by decide +kernel
theorem dX6_worthTold_1 : decode cX6_worthTold 1 = .ok (.getfield 25, 3) := by decide +kernel
theorem dX6_worthTold_4 : decode cX6_worthTold 4 = .ok (.bipush 115, 2) := by decide +kernel
theorem dX6_worthTold_6 : decode cX6_worthTold 6 = .ok (.iload_n 1, 1) := by decide +kernel
theorem dX6_worthTold_7 : decode cX6_worthTold 7 = .ok (.iastore, 1) := by decide +kernel
theorem dX6_worthTold_8 : decode cX6_worthTold 8 = .ok (.aload_n 0, 1) := by decide +kernel
theorem dX6_worthTold_9 : decode cX6_worthTold 9 = .ok (.getfield 25, 3) := by decide +kernel
theorem dX6_worthTold_12 : decode cX6_worthTold 12 = .ok (.bipush 104, 2) := by decide +kernel
theorem dX6_worthTold_14 : decode cX6_worthTold 14 = .ok (.iload_n 2, 1) := by decide +kernel
theorem dX6_worthTold_15 : decode cX6_worthTold 15 = .ok (.iastore, 1) := by decide +kernel
theorem dX6_worthTold_16 : decode cX6_worthTold 16 = .ok (.aload_n 0, 1) := by decide +kernel
theorem dX6_worthTold_17 : decode cX6_worthTold 17 = .ok (.getfield 25, 3) := by decide +kernel
theorem dX6_worthTold_20 : decode cX6_worthTold 20 = .ok (.bipush 99, 2) := by decide +kernel
theorem dX6_worthTold_22 : decode cX6_worthTold 22 = .ok (.iload_n 3, 1) := by decide +kernel
theorem dX6_worthTold_23 : decode cX6_worthTold 23 = .ok (.iastore, 1) := by decide +kernel
theorem dX6_worthTold_24 : decode cX6_worthTold 24 = .ok (.aload_n 0, 1) := by decide +kernel
theorem dX6_worthTold_25 : decode cX6_worthTold 25 = .ok (.iconst 1, 1) := by decide +kernel
theorem dX6_worthTold_26 : decode cX6_worthTold 26 = .ok (.invokevirtual 108, 3) := by decide +kernel
theorem dX6_worthTold_29 : decode cX6_worthTold 29 = .ok (.ifCond .eq 11, 3) := by decide +kernel
theorem dX6_worthTold_32 : decode cX6_worthTold 32 = .ok (.aload_n 0, 1) := by decide +kernel
theorem dX6_worthTold_33 : decode cX6_worthTold 33 = .ok (.iconst 1, 1) := by decide +kernel
theorem dX6_worthTold_34 : decode cX6_worthTold 34 = .ok (.invokevirtual 119, 3) := by decide +kernel
theorem dX6_worthTold_37 : decode cX6_worthTold 37 = .ok (.goto 4, 3) := by decide +kernel
theorem dX6_worthTold_40 : decode cX6_worthTold 40 = .ok (.iload_n 2, 1) := by decide +kernel
theorem dX6_worthTold_41 : decode cX6_worthTold 41 = .ok (.iconst 0, 1) := by decide +kernel
theorem dX6_worthTold_42 : decode cX6_worthTold 42 = .ok (.sipush 999, 3) := by decide +kernel
theorem dX6_worthTold_45 : decode cX6_worthTold 45 = .ok (.invokestatic 122, 3) := by decide +kernel
theorem dX6_worthTold_48 : decode cX6_worthTold 48 = .ok (.ireturn, 1) := by decide +kernel
set_option maxRecDepth 20000 in
theorem ggX6_tallies_X6_its : GoodIn wsX6_tallies wsX6_its := goodIn_r _ [6, 1, 27, 28, 29, 30, 31, 32, 33, 34, 35, 36, 37, 38, 39, 40, 41, 42, 43, 44, 45, 46] (by decide +kernel) (by decide +kernel)
set_option maxRecDepth 20000 in
theorem gX6_tallies_X6_its : GoodIn wsX6_tallies (wsV RX6 115 RX6 yX6_its wsX6_its) := goodIn_app (goodIn_of _ (by decide +kernel)) ggX6_tallies_X6_its
set_option maxRecDepth 20000 in
theorem ggX6_tallies_X6_countedTold : GoodIn wsX6_tallies wsX6_countedTold := goodIn_r _ [10, 11, 12, 13, 14, 5, 15, 1, 16, 17, 18, 19, 20, 21, 22, 23, 24, 25, 26, 27, 28, 29, 30, 31, 32, 33, 34, 35, 36, 37, 38, 39, 40, 41, 42, 43, 44, 45, 46] (by decide +kernel) (by decide +kernel)
set_option maxRecDepth 20000 in
theorem gX6_tallies_X6_countedTold : GoodIn wsX6_tallies (wsV RX6 125 RX6 yX6_countedTold wsX6_countedTold) := goodIn_app (goodIn_of _ (by decide +kernel)) ggX6_tallies_X6_countedTold
theorem dX6_tallies_0 : decode cX6_tallies 0 = .ok (.iload_n 2, 1) := by decide +kernel
theorem dX6_tallies_1 : decode cX6_tallies 1 = .ok (.aload_n 0, 1) := by decide +kernel
theorem dX6_tallies_2 : decode cX6_tallies 2 = .ok (.getfield 7, 3) := by decide +kernel
theorem dX6_tallies_5 : decode cX6_tallies 5 = .ok (.iconst 2, 1) := by decide +kernel
theorem dX6_tallies_6 : decode cX6_tallies 6 = .ok (.iaload, 1) := by decide +kernel
theorem dX6_tallies_7 : decode cX6_tallies 7 = .ok (.if_icmp .eq 14, 3) := by decide +kernel
theorem dX6_tallies_10 : decode cX6_tallies 10 = .ok (.aload_n 0, 1) := by decide +kernel
theorem dX6_tallies_11 : decode cX6_tallies 11 = .ok (.iload_n 1, 1) := by decide +kernel
theorem dX6_tallies_12 : decode cX6_tallies 12 = .ok (.iconst 0, 1) := by decide +kernel
theorem dX6_tallies_13 : decode cX6_tallies 13 = .ok (.invokevirtual 115, 3) := by decide +kernel
theorem dX6_tallies_16 : decode cX6_tallies 16 = .ok (.bipush 6, 2) := by decide +kernel
theorem dX6_tallies_18 : decode cX6_tallies 18 = .ok (.if_icmp .ne 5, 3) := by decide +kernel
theorem dX6_tallies_21 : decode cX6_tallies 21 = .ok (.iconst 0, 1) := by decide +kernel
theorem dX6_tallies_22 : decode cX6_tallies 22 = .ok (.ireturn, 1) := by decide +kernel
theorem dX6_tallies_23 : decode cX6_tallies 23 = .ok (.aload_n 0, 1) := by decide +kernel
theorem dX6_tallies_24 : decode cX6_tallies 24 = .ok (.aload_n 0, 1) := by decide +kernel
theorem dX6_tallies_25 : decode cX6_tallies 25 = .ok (.getfield 7, 3) := by decide +kernel
theorem dX6_tallies_28 : decode cX6_tallies 28 = .ok (.bipush 32, 2) := by decide +kernel
theorem dX6_tallies_30 : decode cX6_tallies 30 = .ok (.iload_n 2, 1) := by decide +kernel
theorem dX6_tallies_31 : decode cX6_tallies 31 = .ok (.iadd, 1) := by decide +kernel
theorem dX6_tallies_32 : decode cX6_tallies 32 = .ok (.iaload, 1) := by decide +kernel
theorem dX6_tallies_33 : decode cX6_tallies 33 = .ok (.iload_n 2, 1) := by decide +kernel
theorem dX6_tallies_34 : decode cX6_tallies 34 = .ok (.aload_n 0, 1) := by decide +kernel
theorem dX6_tallies_35 : decode cX6_tallies 35 = .ok (.getfield 7, 3) := by decide +kernel
theorem dX6_tallies_38 : decode cX6_tallies 38 = .ok (.iconst 0, 1) := by decide +kernel
theorem dX6_tallies_39 : decode cX6_tallies 39 = .ok (.iaload, 1) := by decide +kernel
theorem dX6_tallies_40 : decode cX6_tallies 40 = .ok (.invokevirtual 125, 3) := by decide +kernel
theorem dX6_tallies_43 : decode cX6_tallies 43 = .ok (.istore_n 3, 1) := by decide +kernel
theorem dX6_tallies_44 : decode cX6_tallies 44 = .ok (.aload_n 0, 1) := by decide +kernel
theorem dX6_tallies_45 : decode cX6_tallies 45 = .ok (.iload_n 1, 1) := by decide +kernel
theorem dX6_tallies_46 : decode cX6_tallies 46 = .ok (.iconst 0, 1) := by decide +kernel
theorem dX6_tallies_47 : decode cX6_tallies 47 = .ok (.invokevirtual 115, 3) := by decide +kernel
theorem dX6_tallies_50 : decode cX6_tallies 50 = .ok (.iconst 4, 1) := by decide +kernel
theorem dX6_tallies_51 : decode cX6_tallies 51 = .ok (.if_icmp .ne 21, 3) := by decide +kernel
theorem dX6_tallies_54 : decode cX6_tallies 54 = .ok (.iload_n 3, 1) := by decide +kernel
theorem dX6_tallies_55 : decode cX6_tallies 55 = .ok (.ifCond .le 7, 3) := by decide +kernel
theorem dX6_tallies_58 : decode cX6_tallies 58 = .ok (.iconst 1, 1) := by decide +kernel
theorem dX6_tallies_59 : decode cX6_tallies 59 = .ok (.goto 12, 3) := by decide +kernel
theorem dX6_tallies_62 : decode cX6_tallies 62 = .ok (.iload_n 3, 1) := by decide +kernel
theorem dX6_tallies_63 : decode cX6_tallies 63 = .ok (.ifCond .ge 7, 3) := by decide +kernel
theorem dX6_tallies_66 : decode cX6_tallies 66 = .ok (.iconst (-1), 1) := by decide +kernel
theorem dX6_tallies_67 : decode cX6_tallies 67 = .ok (.goto 4, 3) := by decide +kernel
theorem dX6_tallies_70 : decode cX6_tallies 70 = .ok (.iconst 0, 1) := by decide +kernel
theorem dX6_tallies_71 : decode cX6_tallies 71 = .ok (.ireturn, 1) := by decide +kernel
theorem dX6_tallies_72 : decode cX6_tallies 72 = .ok (.aload_n 0, 1) := by decide +kernel
theorem dX6_tallies_73 : decode cX6_tallies 73 = .ok (.iload_n 1, 1) := by decide +kernel
theorem dX6_tallies_74 : decode cX6_tallies 74 = .ok (.iconst 0, 1) := by decide +kernel
theorem dX6_tallies_75 : decode cX6_tallies 75 = .ok (.invokevirtual 115, 3) := by decide +kernel
theorem dX6_tallies_78 : decode cX6_tallies 78 = .ok (.iconst 5, 1) := by decide +kernel
theorem dX6_tallies_79 : decode cX6_tallies 79 = .ok (.if_icmp .ne 9, 3) := by decide +kernel
theorem dX6_tallies_82 : decode cX6_tallies 82 = .ok (.iconst 2, 1) := by decide +kernel
theorem dX6_tallies_83 : decode cX6_tallies 83 = .ok (.iload_n 3, 1) := by decide +kernel
theorem dX6_tallies_84 : decode cX6_tallies 84 = .ok (.imul, 1) := by decide +kernel
theorem dX6_tallies_85 : decode cX6_tallies 85 = .ok (.goto 4, 3) := by decide +kernel
theorem dX6_tallies_88 : decode cX6_tallies 88 = .ok (.iload_n 3, 1) := by decide +kernel
theorem dX6_tallies_89 : decode cX6_tallies 89 = .ok (.ireturn, 1) := by decide +kernel
set_option maxRecDepth 20000 in
theorem ggX6_goes_X6_goesBy : GoodIn wsX6_goes wsX6_goesBy := goodIn_r _ [6, 1, 7, 8, 9, 5, 10, 39, 40, 41, 42, 43, 44, 45, 46, 47, 48, 49, 50, 51, 52, 53, 54, 55, 56, 57, 58] (by decide +kernel) (by decide +kernel)
set_option maxRecDepth 20000 in
theorem gX6_goes_X6_goesBy : GoodIn wsX6_goes (wsV RX6 128 RX6 yX6_goesBy wsX6_goesBy) := goodIn_app (goodIn_of _ (by decide +kernel)) ggX6_goes_X6_goesBy
set_option maxRecDepth 20000 in
theorem ggX6_goes_X6_its : GoodIn wsX6_goes wsX6_its := goodIn_r _ [10, 1, 39, 40, 41, 42, 43, 44, 45, 46, 47, 48, 49, 50, 51, 52, 53, 54, 55, 56, 57, 58] (by decide +kernel) (by decide +kernel)
set_option maxRecDepth 20000 in
theorem gX6_goes_X6_its : GoodIn wsX6_goes (wsV RX6 115 RX6 yX6_its wsX6_its) := goodIn_app (goodIn_of _ (by decide +kernel)) ggX6_goes_X6_its
set_option maxRecDepth 20000 in
theorem ggX6_goes_X6_tallies : GoodIn wsX6_goes wsX6_tallies := goodIn_r _ [14, 1, 7, 8, 9, 5, 10, 15, 16, 17, 18, 19, 20, 21, 22, 23, 24, 25, 26, 27, 28, 29, 30, 31, 32, 33, 34, 39, 40, 41, 42, 43, 44, 45, 46, 47, 48, 49, 50, 51, 52, 53, 54, 55, 56, 57, 58] (by decide +kernel) (by decide +kernel)
set_option maxRecDepth 20000 in
theorem gX6_goes_X6_tallies : GoodIn wsX6_goes (wsV RX6 131 RX6 yX6_tallies wsX6_tallies) := goodIn_app (goodIn_of _ (by decide +kernel)) ggX6_goes_X6_tallies
set_option maxRecDepth 20000 in
theorem ggX6_goes_X6_held : GoodIn wsX6_goes wsX6_held := goodIn_r _ [34] (by decide +kernel) (by decide +kernel)
set_option maxRecDepth 20000 in
theorem gX6_goes_X6_held : GoodIn wsX6_goes (va_wsS RX6 122 yX6_held wsX6_held) := goodIn_app (goodIn_of _ (by decide +kernel)) ggX6_goes_X6_held
set_option maxRecDepth 20000 in
theorem ggX6_goes_X6_lays1 : GoodIn wsX6_goes wsX6_lays1 := goodIn_r _ [38, 1, 39, 40, 41, 42, 43, 44, 45, 46, 47, 48, 49, 50, 51, 52, 53, 54, 55, 56, 57, 58] (by decide +kernel) (by decide +kernel)
set_option maxRecDepth 20000 in
theorem gX6_goes_X6_lays1 : GoodIn wsX6_goes (wsV RX6 134 RX6 yX6_lays1 wsX6_lays1) := goodIn_app (goodIn_of _ (by decide +kernel)) ggX6_goes_X6_lays1
theorem dX6_goes_0 : decode cX6_goes 0 = .ok (.aload_n 0, 1) := by decide +kernel
theorem dX6_goes_1 : decode cX6_goes 1 = .ok (.iload_n 1, 1) := by decide +kernel
theorem dX6_goes_2 : decode cX6_goes 2 = .ok (.invokevirtual 128, 3) := by decide +kernel
theorem dX6_goes_5 : decode cX6_goes 5 = .ok (.istore_n 2, 1) := by decide +kernel
theorem dX6_goes_6 : decode cX6_goes 6 = .ok (.aload_n 0, 1) := by decide +kernel
theorem dX6_goes_7 : decode cX6_goes 7 = .ok (.getfield 7, 3) := by decide +kernel
theorem dX6_goes_10 : decode cX6_goes 10 = .ok (.iconst 1, 1) := by decide +kernel
theorem dX6_goes_11 : decode cX6_goes 11 = .ok (.iaload, 1) := by decide +kernel
theorem dX6_goes_12 : decode cX6_goes 12 = .ok (.istore_n 3, 1) := by decide +kernel
theorem dX6_goes_13 : decode cX6_goes 13 = .ok (.iload_n 2, 1) := by decide +kernel
theorem dX6_goes_14 : decode cX6_goes 14 = .ok (.ifCond .eq 105, 3) := by decide +kernel
theorem dX6_goes_17 : decode cX6_goes 17 = .ok (.aload_n 0, 1) := by decide +kernel
theorem dX6_goes_18 : decode cX6_goes 18 = .ok (.iload_n 1, 1) := by decide +kernel
theorem dX6_goes_19 : decode cX6_goes 19 = .ok (.iconst 2, 1) := by decide +kernel
theorem dX6_goes_20 : decode cX6_goes 20 = .ok (.invokevirtual 115, 3) := by decide +kernel
theorem dX6_goes_23 : decode cX6_goes 23 = .ok (.istore 4, 2) := by decide +kernel
theorem dX6_goes_25 : decode cX6_goes 25 = .ok (.iload_n 2, 1) := by decide +kernel
theorem dX6_goes_26 : decode cX6_goes 26 = .ok (.ifCond .le 12, 3) := by decide +kernel
theorem dX6_goes_29 : decode cX6_goes 29 = .ok (.iload 4, 2) := by decide +kernel
theorem dX6_goes_31 : decode cX6_goes 31 = .ok (.iconst 1, 1) := by decide +kernel
theorem dX6_goes_32 : decode cX6_goes 32 = .ok (.iadd, 1) := by decide +kernel
theorem dX6_goes_33 : decode cX6_goes 33 = .ok (.iload_n 3, 1) := by decide +kernel
theorem dX6_goes_34 : decode cX6_goes 34 = .ok (.irem, 1) := by decide +kernel
theorem dX6_goes_35 : decode cX6_goes 35 = .ok (.goto 11, 3) := by decide +kernel
theorem dX6_goes_38 : decode cX6_goes 38 = .ok (.iload 4, 2) := by decide +kernel
theorem dX6_goes_40 : decode cX6_goes 40 = .ok (.iload_n 3, 1) := by decide +kernel
theorem dX6_goes_41 : decode cX6_goes 41 = .ok (.iadd, 1) := by decide +kernel
theorem dX6_goes_42 : decode cX6_goes 42 = .ok (.iconst 1, 1) := by decide +kernel
theorem dX6_goes_43 : decode cX6_goes 43 = .ok (.isub, 1) := by decide +kernel
theorem dX6_goes_44 : decode cX6_goes 44 = .ok (.iload_n 3, 1) := by decide +kernel
theorem dX6_goes_45 : decode cX6_goes 45 = .ok (.irem, 1) := by decide +kernel
theorem dX6_goes_46 : decode cX6_goes 46 = .ok (.istore 5, 2) := by decide +kernel
theorem dX6_goes_48 : decode cX6_goes 48 = .ok (.iload_n 2, 1) := by decide +kernel
theorem dX6_goes_49 : decode cX6_goes 49 = .ok (.ifCond .le 13, 3) := by decide +kernel
theorem dX6_goes_52 : decode cX6_goes 52 = .ok (.aload_n 0, 1) := by decide +kernel
theorem dX6_goes_53 : decode cX6_goes 53 = .ok (.iload_n 1, 1) := by decide +kernel
theorem dX6_goes_54 : decode cX6_goes 54 = .ok (.iload 4, 2) := by decide +kernel
theorem dX6_goes_56 : decode cX6_goes 56 = .ok (.invokevirtual 131, 3) := by decide +kernel
theorem dX6_goes_59 : decode cX6_goes 59 = .ok (.goto 11, 3) := by decide +kernel
theorem dX6_goes_62 : decode cX6_goes 62 = .ok (.aload_n 0, 1) := by decide +kernel
theorem dX6_goes_63 : decode cX6_goes 63 = .ok (.iload_n 1, 1) := by decide +kernel
theorem dX6_goes_64 : decode cX6_goes 64 = .ok (.iload 5, 2) := by decide +kernel
theorem dX6_goes_66 : decode cX6_goes 66 = .ok (.invokevirtual 131, 3) := by decide +kernel
theorem dX6_goes_69 : decode cX6_goes 69 = .ok (.ineg, 1) := by decide +kernel
theorem dX6_goes_70 : decode cX6_goes 70 = .ok (.istore 6, 2) := by decide +kernel
theorem dX6_goes_72 : decode cX6_goes 72 = .ok (.aload_n 0, 1) := by decide +kernel
theorem dX6_goes_73 : decode cX6_goes 73 = .ok (.iload_n 1, 1) := by decide +kernel
theorem dX6_goes_74 : decode cX6_goes 74 = .ok (.iconst 3, 1) := by decide +kernel
theorem dX6_goes_75 : decode cX6_goes 75 = .ok (.aload_n 0, 1) := by decide +kernel
theorem dX6_goes_76 : decode cX6_goes 76 = .ok (.iload_n 1, 1) := by decide +kernel
theorem dX6_goes_77 : decode cX6_goes 77 = .ok (.iconst 3, 1) := by decide +kernel
theorem dX6_goes_78 : decode cX6_goes 78 = .ok (.invokevirtual 115, 3) := by decide +kernel
theorem dX6_goes_81 : decode cX6_goes 81 = .ok (.iload 6, 2) := by decide +kernel
theorem dX6_goes_83 : decode cX6_goes 83 = .ok (.iadd, 1) := by decide +kernel
theorem dX6_goes_84 : decode cX6_goes 84 = .ok (.sipush (-9999), 3) := by decide +kernel
theorem dX6_goes_87 : decode cX6_goes 87 = .ok (.sipush 9999, 3) := by decide +kernel
theorem dX6_goes_90 : decode cX6_goes 90 = .ok (.invokestatic 122, 3) := by decide +kernel
theorem dX6_goes_93 : decode cX6_goes 93 = .ok (.invokevirtual 134, 3) := by decide +kernel
theorem dX6_goes_96 : decode cX6_goes 96 = .ok (.aload_n 0, 1) := by decide +kernel
theorem dX6_goes_97 : decode cX6_goes 97 = .ok (.iload_n 1, 1) := by decide +kernel
theorem dX6_goes_98 : decode cX6_goes 98 = .ok (.iconst 2, 1) := by decide +kernel
theorem dX6_goes_99 : decode cX6_goes 99 = .ok (.iload 5, 2) := by decide +kernel
theorem dX6_goes_101 : decode cX6_goes 101 = .ok (.invokevirtual 134, 3) := by decide +kernel
theorem dX6_goes_104 : decode cX6_goes 104 = .ok (.iload_n 2, 1) := by decide +kernel
theorem dX6_goes_105 : decode cX6_goes 105 = .ok (.iload_n 2, 1) := by decide +kernel
theorem dX6_goes_106 : decode cX6_goes 106 = .ok (.ifCond .le 7, 3) := by decide +kernel
theorem dX6_goes_109 : decode cX6_goes 109 = .ok (.iconst (-1), 1) := by decide +kernel
theorem dX6_goes_110 : decode cX6_goes 110 = .ok (.goto 4, 3) := by decide +kernel
theorem dX6_goes_113 : decode cX6_goes 113 = .ok (.iconst 1, 1) := by decide +kernel
theorem dX6_goes_114 : decode cX6_goes 114 = .ok (.iadd, 1) := by decide +kernel
theorem dX6_goes_115 : decode cX6_goes 115 = .ok (.istore_n 2, 1) := by decide +kernel
theorem dX6_goes_116 : decode cX6_goes 116 = .ok (.goto (-103), 3) := by decide +kernel
theorem dX6_goes_119 : decode cX6_goes 119 = .ok (.return_, 1) := by decide +kernel
set_option maxRecDepth 20000 in
theorem ggX6_minute_X6_goes : GoodIn wsX6_minute wsX6_goes := goodIn_r _ [6, 1, 7, 8, 9, 5, 10, 11, 12, 13, 14, 15, 16, 17, 18, 19, 20, 21, 22, 23, 24, 25, 26, 27, 28, 29, 30, 31, 32, 33, 34, 35, 36, 37, 38, 39, 40, 41, 42, 43, 44, 45, 46, 47, 48, 49, 50, 51, 52, 53, 54, 55, 56, 57, 58, 59, 60, 61, 62] (by decide +kernel) (by decide +kernel)
set_option maxRecDepth 20000 in
theorem gX6_minute_X6_goes : GoodIn wsX6_minute (wsV RX6 138 RX6 yX6_goes wsX6_goes) := goodIn_app (goodIn_of _ (by decide +kernel)) ggX6_minute_X6_goes
theorem dX6_minute_0 : decode cX6_minute 0 = .ok (.iconst 0, 1) := by decide +kernel
theorem dX6_minute_1 : decode cX6_minute 1 = .ok (.istore_n 1, 1) := by decide +kernel
theorem dX6_minute_2 : decode cX6_minute 2 = .ok (.iload_n 1, 1) := by decide +kernel
theorem dX6_minute_3 : decode cX6_minute 3 = .ok (.aload_n 0, 1) := by decide +kernel
theorem dX6_minute_4 : decode cX6_minute 4 = .ok (.getfield 7, 3) := by decide +kernel
theorem dX6_minute_7 : decode cX6_minute 7 = .ok (.bipush 6, 2) := by decide +kernel
theorem dX6_minute_9 : decode cX6_minute 9 = .ok (.iaload, 1) := by decide +kernel
theorem dX6_minute_10 : decode cX6_minute 10 = .ok (.if_icmp .ge 14, 3) := by decide +kernel
theorem dX6_minute_13 : decode cX6_minute 13 = .ok (.aload_n 0, 1) := by decide +kernel
theorem dX6_minute_14 : decode cX6_minute 14 = .ok (.iload_n 1, 1) := by decide +kernel
theorem dX6_minute_15 : decode cX6_minute 15 = .ok (.invokevirtual 138, 3) := by decide +kernel
theorem dX6_minute_18 : decode cX6_minute 18 = .ok (.iinc 1 1, 3) := by decide +kernel
theorem dX6_minute_21 : decode cX6_minute 21 = .ok (.goto (-19), 3) := by decide +kernel
theorem dX6_minute_24 : decode cX6_minute 24 = .ok (.aload_n 0, 1) := by decide +kernel
theorem dX6_minute_25 : decode cX6_minute 25 = .ok (.getfield 7, 3) := by decide +kernel
theorem dX6_minute_28 : decode cX6_minute 28 = .ok (.iconst 0, 1) := by decide +kernel
theorem dX6_minute_29 : decode cX6_minute 29 = .ok (.dup2, 1) := by decide +kernel
theorem dX6_minute_30 : decode cX6_minute 30 = .ok (.iaload, 1) := by decide +kernel
theorem dX6_minute_31 : decode cX6_minute 31 = .ok (.iconst 1, 1) := by decide +kernel
theorem dX6_minute_32 : decode cX6_minute 32 = .ok (.iadd, 1) := by decide +kernel
theorem dX6_minute_33 : decode cX6_minute 33 = .ok (.iastore, 1) := by decide +kernel
theorem dX6_minute_34 : decode cX6_minute 34 = .ok (.return_, 1) := by decide +kernel
theorem dX6_draw_0 : decode cX6_draw 0 = .ok (.aload_n 0, 1) := by decide +kernel
theorem dX6_draw_1 : decode cX6_draw 1 = .ok (.getfield 7, 3) := by decide +kernel
theorem dX6_draw_4 : decode cX6_draw 4 = .ok (.iconst 3, 1) := by decide +kernel
theorem dX6_draw_5 : decode cX6_draw 5 = .ok (.aload_n 0, 1) := by decide +kernel
theorem dX6_draw_6 : decode cX6_draw 6 = .ok (.getfield 7, 3) := by decide +kernel
theorem dX6_draw_9 : decode cX6_draw 9 = .ok (.iconst 3, 1) := by decide +kernel
theorem dX6_draw_10 : decode cX6_draw 10 = .ok (.iaload, 1) := by decide +kernel
theorem dX6_draw_11 : decode cX6_draw 11 = .ok (.ldc 141, 2) := by decide +kernel
theorem dX6_draw_13 : decode cX6_draw 13 = .ok (.imul, 1) := by decide +kernel
theorem dX6_draw_14 : decode cX6_draw 14 = .ok (.sipush 12345, 3) := by decide +kernel
theorem dX6_draw_17 : decode cX6_draw 17 = .ok (.iadd, 1) := by decide +kernel
theorem dX6_draw_18 : decode cX6_draw 18 = .ok (.iastore, 1) := by decide +kernel
theorem dX6_draw_19 : decode cX6_draw 19 = .ok (.aload_n 0, 1) := by decide +kernel
theorem dX6_draw_20 : decode cX6_draw 20 = .ok (.getfield 7, 3) := by decide +kernel
theorem dX6_draw_23 : decode cX6_draw 23 = .ok (.iconst 3, 1) := by decide +kernel
theorem dX6_draw_24 : decode cX6_draw 24 = .ok (.iaload, 1) := by decide +kernel
theorem dX6_draw_25 : decode cX6_draw 25 = .ok (.bipush 8, 2) := by decide +kernel
theorem dX6_draw_27 : decode cX6_draw 27 = .ok (.iushr, 1) := by decide +kernel
theorem dX6_draw_28 : decode cX6_draw 28 = .ok (.ireturn, 1) := by decide +kernel
set_option maxRecDepth 20000 in
theorem ggX6_pairs_X6_its : GoodIn wsX6_pairs wsX6_its := goodIn_r _ [6, 1, 7, 8, 9, 10, 11, 12, 13, 14, 15, 16, 17, 18, 19, 20, 21, 22, 23, 24, 25, 26] (by decide +kernel) (by decide +kernel)
set_option maxRecDepth 20000 in
theorem gX6_pairs_X6_its : GoodIn wsX6_pairs (wsV RX6 115 RX6 yX6_its wsX6_its) := goodIn_app (goodIn_of _ (by decide +kernel)) ggX6_pairs_X6_its
theorem dX6_pairs_0 : decode cX6_pairs 0 = .ok (.iconst 0, 1) := by decide +kernel
theorem dX6_pairs_1 : decode cX6_pairs 1 = .ok (.istore_n 1, 1) := by decide +kernel
theorem dX6_pairs_2 : decode cX6_pairs 2 = .ok (.iconst 0, 1) := by decide +kernel
theorem dX6_pairs_3 : decode cX6_pairs 3 = .ok (.istore_n 2, 1) := by decide +kernel
theorem dX6_pairs_4 : decode cX6_pairs 4 = .ok (.iload_n 2, 1) := by decide +kernel
theorem dX6_pairs_5 : decode cX6_pairs 5 = .ok (.aload_n 0, 1) := by decide +kernel
theorem dX6_pairs_6 : decode cX6_pairs 6 = .ok (.getfield 7, 3) := by decide +kernel
theorem dX6_pairs_9 : decode cX6_pairs 9 = .ok (.bipush 6, 2) := by decide +kernel
theorem dX6_pairs_11 : decode cX6_pairs 11 = .ok (.iaload, 1) := by decide +kernel
theorem dX6_pairs_12 : decode cX6_pairs 12 = .ok (.if_icmp .ge 45, 3) := by decide +kernel
theorem dX6_pairs_15 : decode cX6_pairs 15 = .ok (.iconst 0, 1) := by decide +kernel
theorem dX6_pairs_16 : decode cX6_pairs 16 = .ok (.istore_n 3, 1) := by decide +kernel
theorem dX6_pairs_17 : decode cX6_pairs 17 = .ok (.iload_n 3, 1) := by decide +kernel
theorem dX6_pairs_18 : decode cX6_pairs 18 = .ok (.iload_n 2, 1) := by decide +kernel
theorem dX6_pairs_19 : decode cX6_pairs 19 = .ok (.if_icmp .ge 32, 3) := by decide +kernel
theorem dX6_pairs_22 : decode cX6_pairs 22 = .ok (.iload_n 1, 1) := by decide +kernel
theorem dX6_pairs_23 : decode cX6_pairs 23 = .ok (.aload_n 0, 1) := by decide +kernel
theorem dX6_pairs_24 : decode cX6_pairs 24 = .ok (.iload_n 2, 1) := by decide +kernel
theorem dX6_pairs_25 : decode cX6_pairs 25 = .ok (.iconst 2, 1) := by decide +kernel
theorem dX6_pairs_26 : decode cX6_pairs 26 = .ok (.invokevirtual 115, 3) := by decide +kernel
theorem dX6_pairs_29 : decode cX6_pairs 29 = .ok (.aload_n 0, 1) := by decide +kernel
theorem dX6_pairs_30 : decode cX6_pairs 30 = .ok (.iload_n 3, 1) := by decide +kernel
theorem dX6_pairs_31 : decode cX6_pairs 31 = .ok (.iconst 2, 1) := by decide +kernel
theorem dX6_pairs_32 : decode cX6_pairs 32 = .ok (.invokevirtual 115, 3) := by decide +kernel
theorem dX6_pairs_35 : decode cX6_pairs 35 = .ok (.if_icmp .ne 7, 3) := by decide +kernel
theorem dX6_pairs_38 : decode cX6_pairs 38 = .ok (.iconst 1, 1) := by decide +kernel
theorem dX6_pairs_39 : decode cX6_pairs 39 = .ok (.goto 4, 3) := by decide +kernel
theorem dX6_pairs_42 : decode cX6_pairs 42 = .ok (.iconst 0, 1) := by decide +kernel
theorem dX6_pairs_43 : decode cX6_pairs 43 = .ok (.iadd, 1) := by decide +kernel
theorem dX6_pairs_44 : decode cX6_pairs 44 = .ok (.istore_n 1, 1) := by decide +kernel
theorem dX6_pairs_45 : decode cX6_pairs 45 = .ok (.iinc 3 1, 3) := by decide +kernel
theorem dX6_pairs_48 : decode cX6_pairs 48 = .ok (.goto (-31), 3) := by decide +kernel
theorem dX6_pairs_51 : decode cX6_pairs 51 = .ok (.iinc 2 1, 3) := by decide +kernel
theorem dX6_pairs_54 : decode cX6_pairs 54 = .ok (.goto (-50), 3) := by decide +kernel
theorem dX6_pairs_57 : decode cX6_pairs 57 = .ok (.iload_n 1, 1) := by decide +kernel
theorem dX6_pairs_58 : decode cX6_pairs 58 = .ok (.ireturn, 1) := by decide +kernel
set_option maxRecDepth 20000 in
theorem ggX6_build_X6_in : GoodIn wsX6_build wsX6_in := goodIn_r _ [5] (by decide +kernel) (by decide +kernel)
set_option maxRecDepth 20000 in
theorem gX6_build_X6_in : GoodIn wsX6_build (va_wsS RX6 51 yX6_in wsX6_in) := goodIn_app (goodIn_of _ (by decide +kernel)) ggX6_build_X6_in
set_option maxRecDepth 20000 in
theorem ggX6_build_X6_error : GoodIn wsX6_build wsX6_error := goodIn_r _ [9, 10, 11, 16, 17, 18, 19, 20, 21, 22, 23, 24, 25, 26, 27, 28, 29, 30, 31, 32, 33, 34, 35] (by decide +kernel) (by decide +kernel)
set_option maxRecDepth 20000 in
theorem gX6_build_X6_error : GoodIn wsX6_build (wsV RX6 55 RX6 yX6_error wsX6_error) := goodIn_app (goodIn_of _ (by decide +kernel)) ggX6_build_X6_error
set_option maxRecDepth 20000 in
theorem ggX6_build_X6_builds : GoodIn wsX6_build wsX6_builds := goodIn_r _ [15, 1, 16, 17, 18, 19, 20, 21, 22, 23, 24, 25, 26, 27, 28, 29, 30, 31, 32, 33, 34, 35] (by decide +kernel) (by decide +kernel)
set_option maxRecDepth 20000 in
theorem gX6_build_X6_builds : GoodIn wsX6_build (wsV RX6 46 RX6 yX6_builds wsX6_builds) := goodIn_app (goodIn_of _ (by decide +kernel)) ggX6_build_X6_builds
theorem dX6_build_0 : decode cX6_build 0 = .ok (.iload_n 1, 1) := by decide +kernel
theorem dX6_build_1 : decode cX6_build 1 = .ok (.iconst 4, 1) := by decide +kernel
theorem dX6_build_2 : decode cX6_build 2 = .ok (.bipush 14, 2) := by decide +kernel
theorem dX6_build_4 : decode cX6_build 4 = .ok (.invokestatic 51, 3) := by decide +kernel
theorem dX6_build_7 : decode cX6_build 7 = .ok (.ifCond .ne 9, 3) := by decide +kernel
theorem dX6_build_10 : decode cX6_build 10 = .ok (.aload_n 0, 1) := by decide +kernel
theorem dX6_build_11 : decode cX6_build 11 = .ok (.iconst 1, 1) := by decide +kernel
theorem dX6_build_12 : decode cX6_build 12 = .ok (.invokevirtual 55, 3) := by decide +kernel
theorem dX6_build_15 : decode cX6_build 15 = .ok (.ireturn, 1) := by decide +kernel
theorem dX6_build_16 : decode cX6_build 16 = .ok (.aload_n 0, 1) := by decide +kernel
theorem dX6_build_17 : decode cX6_build 17 = .ok (.getfield 7, 3) := by decide +kernel
theorem dX6_build_20 : decode cX6_build 20 = .ok (.bipush 6, 2) := by decide +kernel
theorem dX6_build_22 : decode cX6_build 22 = .ok (.iaload, 1) := by decide +kernel
theorem dX6_build_23 : decode cX6_build 23 = .ok (.ifCond .le 9, 3) := by decide +kernel
theorem dX6_build_26 : decode cX6_build 26 = .ok (.aload_n 0, 1) := by decide +kernel
theorem dX6_build_27 : decode cX6_build 27 = .ok (.iconst 3, 1) := by decide +kernel
theorem dX6_build_28 : decode cX6_build 28 = .ok (.invokevirtual 55, 3) := by decide +kernel
theorem dX6_build_31 : decode cX6_build 31 = .ok (.ireturn, 1) := by decide +kernel
theorem dX6_build_32 : decode cX6_build 32 = .ok (.aload_n 0, 1) := by decide +kernel
theorem dX6_build_33 : decode cX6_build 33 = .ok (.getfield 7, 3) := by decide +kernel
theorem dX6_build_36 : decode cX6_build 36 = .ok (.iconst 1, 1) := by decide +kernel
theorem dX6_build_37 : decode cX6_build 37 = .ok (.iaload, 1) := by decide +kernel
theorem dX6_build_38 : decode cX6_build 38 = .ok (.istore_n 2, 1) := by decide +kernel
theorem dX6_build_39 : decode cX6_build 39 = .ok (.aload_n 0, 1) := by decide +kernel
theorem dX6_build_40 : decode cX6_build 40 = .ok (.iload_n 1, 1) := by decide +kernel
theorem dX6_build_41 : decode cX6_build 41 = .ok (.invokevirtual 46, 3) := by decide +kernel
theorem dX6_build_44 : decode cX6_build 44 = .ok (.iload_n 2, 1) := by decide +kernel
theorem dX6_build_45 : decode cX6_build 45 = .ok (.ireturn, 1) := by decide +kernel
set_option maxRecDepth 20000 in
theorem ggX6_rise_X6_isStep : GoodIn wsX6_rise wsX6_isStep := goodIn_r _ [5, 6, 7, 8, 4, 9, 20, 21, 22, 23, 24, 25, 26, 27, 28, 29, 30, 31, 32, 33, 34, 35, 36, 37, 38, 39] (by decide +kernel) (by decide +kernel)
set_option maxRecDepth 20000 in
theorem gX6_rise_X6_isStep : GoodIn wsX6_rise (wsV RX6 142 RX6 yX6_isStep wsX6_isStep) := goodIn_app (goodIn_of _ (by decide +kernel)) ggX6_rise_X6_isStep
set_option maxRecDepth 20000 in
theorem ggX6_rise_X6_in : GoodIn wsX6_rise wsX6_in := goodIn_r _ [9] (by decide +kernel) (by decide +kernel)
set_option maxRecDepth 20000 in
theorem gX6_rise_X6_in : GoodIn wsX6_rise (va_wsS RX6 51 yX6_in wsX6_in) := goodIn_app (goodIn_of _ (by decide +kernel)) ggX6_rise_X6_in
set_option maxRecDepth 20000 in
theorem ggX6_rise_X6_change1 : GoodIn wsX6_rise wsX6_change1 := goodIn_r _ [13, 6, 20, 21, 22, 23, 24, 25, 26, 27, 28, 29, 30, 31, 32, 33, 34, 35, 36, 37, 38, 39] (by decide +kernel) (by decide +kernel)
set_option maxRecDepth 20000 in
theorem gX6_rise_X6_change1 : GoodIn wsX6_rise (wsV RX6 145 RX6 yX6_change1 wsX6_change1) := goodIn_app (goodIn_of _ (by decide +kernel)) ggX6_rise_X6_change1
set_option maxRecDepth 20000 in
theorem ggX6_rise_X6_error : GoodIn wsX6_rise wsX6_error := goodIn_r _ [17, 18, 19, 20, 21, 22, 23, 24, 25, 26, 27, 28, 29, 30, 31, 32, 33, 34, 35, 36, 37, 38, 39] (by decide +kernel) (by decide +kernel)
set_option maxRecDepth 20000 in
theorem gX6_rise_X6_error : GoodIn wsX6_rise (wsV RX6 55 RX6 yX6_error wsX6_error) := goodIn_app (goodIn_of _ (by decide +kernel)) ggX6_rise_X6_error
theorem dX6_rise_0 : decode cX6_rise 0 = .ok (.aload_n 0, 1) := by decide +kernel
theorem dX6_rise_1 : decode cX6_rise 1 = .ok (.iload_n 1, 1) := by decide +kernel
theorem dX6_rise_2 : decode cX6_rise 2 = .ok (.invokevirtual 142, 3) := by decide +kernel
theorem dX6_rise_5 : decode cX6_rise 5 = .ok (.ifCond .eq 26, 3) := by decide +kernel
theorem dX6_rise_8 : decode cX6_rise 8 = .ok (.iload_n 2, 1) := by decide +kernel
theorem dX6_rise_9 : decode cX6_rise 9 = .ok (.bipush (-9), 2) := by decide +kernel
theorem dX6_rise_11 : decode cX6_rise 11 = .ok (.bipush 9, 2) := by decide +kernel
theorem dX6_rise_13 : decode cX6_rise 13 = .ok (.invokestatic 51, 3) := by decide +kernel
theorem dX6_rise_16 : decode cX6_rise 16 = .ok (.ifCond .eq 15, 3) := by decide +kernel
theorem dX6_rise_19 : decode cX6_rise 19 = .ok (.aload_n 0, 1) := by decide +kernel
theorem dX6_rise_20 : decode cX6_rise 20 = .ok (.bipush 32, 2) := by decide +kernel
theorem dX6_rise_22 : decode cX6_rise 22 = .ok (.iload_n 1, 1) := by decide +kernel
theorem dX6_rise_23 : decode cX6_rise 23 = .ok (.iadd, 1) := by decide +kernel
theorem dX6_rise_24 : decode cX6_rise 24 = .ok (.iload_n 2, 1) := by decide +kernel
theorem dX6_rise_25 : decode cX6_rise 25 = .ok (.invokevirtual 145, 3) := by decide +kernel
theorem dX6_rise_28 : decode cX6_rise 28 = .ok (.goto 8, 3) := by decide +kernel
theorem dX6_rise_31 : decode cX6_rise 31 = .ok (.aload_n 0, 1) := by decide +kernel
theorem dX6_rise_32 : decode cX6_rise 32 = .ok (.iconst 1, 1) := by decide +kernel
theorem dX6_rise_33 : decode cX6_rise 33 = .ok (.invokevirtual 55, 3) := by decide +kernel
theorem dX6_rise_36 : decode cX6_rise 36 = .ok (.ireturn, 1) := by decide +kernel
set_option maxRecDepth 20000 in
theorem ggX6_howManyAt_X6_its : GoodIn wsX6_howManyAt wsX6_its := goodIn_r _ [6, 1, 7, 8, 9, 10, 11, 12, 13, 14, 15, 16, 17, 18, 19, 20, 21, 22, 23, 24, 25, 26] (by decide +kernel) (by decide +kernel)
set_option maxRecDepth 20000 in
theorem gX6_howManyAt_X6_its : GoodIn wsX6_howManyAt (wsV RX6 115 RX6 yX6_its wsX6_its) := goodIn_app (goodIn_of _ (by decide +kernel)) ggX6_howManyAt_X6_its
theorem dX6_howManyAt_0 : decode cX6_howManyAt 0 = .ok (.iconst 0, 1) := by decide +kernel
theorem dX6_howManyAt_1 : decode cX6_howManyAt 1 = .ok (.istore_n 2, 1) := by decide +kernel
theorem dX6_howManyAt_2 : decode cX6_howManyAt 2 = .ok (.iconst 0, 1) := by decide +kernel
theorem dX6_howManyAt_3 : decode cX6_howManyAt 3 = .ok (.istore_n 3, 1) := by decide +kernel
theorem dX6_howManyAt_4 : decode cX6_howManyAt 4 = .ok (.iload_n 3, 1) := by decide +kernel
theorem dX6_howManyAt_5 : decode cX6_howManyAt 5 = .ok (.aload_n 0, 1) := by decide +kernel
theorem dX6_howManyAt_6 : decode cX6_howManyAt 6 = .ok (.getfield 7, 3) := by decide +kernel
theorem dX6_howManyAt_9 : decode cX6_howManyAt 9 = .ok (.bipush 6, 2) := by decide +kernel
theorem dX6_howManyAt_11 : decode cX6_howManyAt 11 = .ok (.iaload, 1) := by decide +kernel
theorem dX6_howManyAt_12 : decode cX6_howManyAt 12 = .ok (.if_icmp .ge 27, 3) := by decide +kernel
theorem dX6_howManyAt_15 : decode cX6_howManyAt 15 = .ok (.iload_n 2, 1) := by decide +kernel
theorem dX6_howManyAt_16 : decode cX6_howManyAt 16 = .ok (.aload_n 0, 1) := by decide +kernel
theorem dX6_howManyAt_17 : decode cX6_howManyAt 17 = .ok (.iload_n 3, 1) := by decide +kernel
theorem dX6_howManyAt_18 : decode cX6_howManyAt 18 = .ok (.iconst 2, 1) := by decide +kernel
theorem dX6_howManyAt_19 : decode cX6_howManyAt 19 = .ok (.invokevirtual 115, 3) := by decide +kernel
theorem dX6_howManyAt_22 : decode cX6_howManyAt 22 = .ok (.iload_n 1, 1) := by decide +kernel
theorem dX6_howManyAt_23 : decode cX6_howManyAt 23 = .ok (.if_icmp .ne 7, 3) := by decide +kernel
theorem dX6_howManyAt_26 : decode cX6_howManyAt 26 = .ok (.iconst 1, 1) := by decide +kernel
theorem dX6_howManyAt_27 : decode cX6_howManyAt 27 = .ok (.goto 4, 3) := by decide +kernel
theorem dX6_howManyAt_30 : decode cX6_howManyAt 30 = .ok (.iconst 0, 1) := by decide +kernel
theorem dX6_howManyAt_31 : decode cX6_howManyAt 31 = .ok (.iadd, 1) := by decide +kernel
theorem dX6_howManyAt_32 : decode cX6_howManyAt 32 = .ok (.istore_n 2, 1) := by decide +kernel
theorem dX6_howManyAt_33 : decode cX6_howManyAt 33 = .ok (.iinc 3 1, 3) := by decide +kernel
theorem dX6_howManyAt_36 : decode cX6_howManyAt 36 = .ok (.goto (-32), 3) := by decide +kernel
theorem dX6_howManyAt_39 : decode cX6_howManyAt 39 = .ok (.iload_n 2, 1) := by decide +kernel
theorem dX6_howManyAt_40 : decode cX6_howManyAt 40 = .ok (.ireturn, 1) := by decide +kernel
set_option maxRecDepth 20000 in
theorem ggX6_stepIs_X6_isStep : GoodIn wsX6_stepIs wsX6_isStep := goodIn_r _ [6, 1, 7, 8, 5, 9, 24, 25, 26, 27, 28, 29, 30, 31, 32, 33, 34, 35, 36, 37, 38, 39, 40, 41, 42, 43] (by decide +kernel) (by decide +kernel)
set_option maxRecDepth 20000 in
theorem gX6_stepIs_X6_isStep : GoodIn wsX6_stepIs (wsV RX6 142 RX6 yX6_isStep wsX6_isStep) := goodIn_app (goodIn_of _ (by decide +kernel)) ggX6_stepIs_X6_isStep
set_option maxRecDepth 20000 in
theorem ggX6_stepIs_X6_in : GoodIn wsX6_stepIs wsX6_in := goodIn_r _ [9] (by decide +kernel) (by decide +kernel)
set_option maxRecDepth 20000 in
theorem gX6_stepIs_X6_in : GoodIn wsX6_stepIs (va_wsS RX6 51 yX6_in wsX6_in) := goodIn_app (goodIn_of _ (by decide +kernel)) ggX6_stepIs_X6_in
set_option maxRecDepth 20000 in
theorem ggX6_stepIs_X6_error : GoodIn wsX6_stepIs wsX6_error := goodIn_r _ [13, 14, 15, 24, 25, 26, 27, 28, 29, 30, 31, 32, 33, 34, 35, 36, 37, 38, 39, 40, 41, 42, 43] (by decide +kernel) (by decide +kernel)
set_option maxRecDepth 20000 in
theorem gX6_stepIs_X6_error : GoodIn wsX6_stepIs (wsV RX6 55 RX6 yX6_error wsX6_error) := goodIn_app (goodIn_of _ (by decide +kernel)) ggX6_stepIs_X6_error
set_option maxRecDepth 20000 in
theorem ggX6_stepIs_X6_howManyAt : GoodIn wsX6_stepIs wsX6_howManyAt := goodIn_r _ [19, 1, 20, 21, 22, 5, 23, 24, 25, 26, 27, 28, 29, 30, 31, 32, 33, 34, 35, 36, 37, 38, 39, 40, 41, 42, 43] (by decide +kernel) (by decide +kernel)
set_option maxRecDepth 20000 in
theorem gX6_stepIs_X6_howManyAt : GoodIn wsX6_stepIs (wsV RX6 148 RX6 yX6_howManyAt wsX6_howManyAt) := goodIn_app (goodIn_of _ (by decide +kernel)) ggX6_stepIs_X6_howManyAt
theorem dX6_stepIs_0 : decode cX6_stepIs 0 = .ok (.aload_n 0, 1) := by decide +kernel
theorem dX6_stepIs_1 : decode cX6_stepIs 1 = .ok (.iload_n 1, 1) := by decide +kernel
theorem dX6_stepIs_2 : decode cX6_stepIs 2 = .ok (.invokevirtual 142, 3) := by decide +kernel
theorem dX6_stepIs_5 : decode cX6_stepIs 5 = .ok (.ifCond .eq 12, 3) := by decide +kernel
theorem dX6_stepIs_8 : decode cX6_stepIs 8 = .ok (.iload_n 2, 1) := by decide +kernel
theorem dX6_stepIs_9 : decode cX6_stepIs 9 = .ok (.iconst 0, 1) := by decide +kernel
theorem dX6_stepIs_10 : decode cX6_stepIs 10 = .ok (.iconst 2, 1) := by decide +kernel
theorem dX6_stepIs_11 : decode cX6_stepIs 11 = .ok (.invokestatic 51, 3) := by decide +kernel
theorem dX6_stepIs_14 : decode cX6_stepIs 14 = .ok (.ifCond .ne 9, 3) := by decide +kernel
theorem dX6_stepIs_17 : decode cX6_stepIs 17 = .ok (.aload_n 0, 1) := by decide +kernel
theorem dX6_stepIs_18 : decode cX6_stepIs 18 = .ok (.iconst 1, 1) := by decide +kernel
theorem dX6_stepIs_19 : decode cX6_stepIs 19 = .ok (.invokevirtual 55, 3) := by decide +kernel
theorem dX6_stepIs_22 : decode cX6_stepIs 22 = .ok (.ireturn, 1) := by decide +kernel
theorem dX6_stepIs_23 : decode cX6_stepIs 23 = .ok (.iload_n 2, 1) := by decide +kernel
theorem dX6_stepIs_24 : decode cX6_stepIs 24 = .ok (.ifCond .ne 15, 3) := by decide +kernel
theorem dX6_stepIs_27 : decode cX6_stepIs 27 = .ok (.aload_n 0, 1) := by decide +kernel
theorem dX6_stepIs_28 : decode cX6_stepIs 28 = .ok (.getfield 7, 3) := by decide +kernel
theorem dX6_stepIs_31 : decode cX6_stepIs 31 = .ok (.bipush 32, 2) := by decide +kernel
theorem dX6_stepIs_33 : decode cX6_stepIs 33 = .ok (.iload_n 1, 1) := by decide +kernel
theorem dX6_stepIs_34 : decode cX6_stepIs 34 = .ok (.iadd, 1) := by decide +kernel
theorem dX6_stepIs_35 : decode cX6_stepIs 35 = .ok (.iaload, 1) := by decide +kernel
theorem dX6_stepIs_36 : decode cX6_stepIs 36 = .ok (.goto 31, 3) := by decide +kernel
theorem dX6_stepIs_39 : decode cX6_stepIs 39 = .ok (.iload_n 2, 1) := by decide +kernel
theorem dX6_stepIs_40 : decode cX6_stepIs 40 = .ok (.iconst 1, 1) := by decide +kernel
theorem dX6_stepIs_41 : decode cX6_stepIs 41 = .ok (.if_icmp .ne 21, 3) := by decide +kernel
theorem dX6_stepIs_44 : decode cX6_stepIs 44 = .ok (.aload_n 0, 1) := by decide +kernel
theorem dX6_stepIs_45 : decode cX6_stepIs 45 = .ok (.getfield 7, 3) := by decide +kernel
theorem dX6_stepIs_48 : decode cX6_stepIs 48 = .ok (.iconst 2, 1) := by decide +kernel
theorem dX6_stepIs_49 : decode cX6_stepIs 49 = .ok (.iaload, 1) := by decide +kernel
theorem dX6_stepIs_50 : decode cX6_stepIs 50 = .ok (.iload_n 1, 1) := by decide +kernel
theorem dX6_stepIs_51 : decode cX6_stepIs 51 = .ok (.if_icmp .ne 7, 3) := by decide +kernel
theorem dX6_stepIs_54 : decode cX6_stepIs 54 = .ok (.iconst 1, 1) := by decide +kernel
theorem dX6_stepIs_55 : decode cX6_stepIs 55 = .ok (.goto 12, 3) := by decide +kernel
theorem dX6_stepIs_58 : decode cX6_stepIs 58 = .ok (.iconst 0, 1) := by decide +kernel
theorem dX6_stepIs_59 : decode cX6_stepIs 59 = .ok (.goto 8, 3) := by decide +kernel
theorem dX6_stepIs_62 : decode cX6_stepIs 62 = .ok (.aload_n 0, 1) := by decide +kernel
theorem dX6_stepIs_63 : decode cX6_stepIs 63 = .ok (.iload_n 1, 1) := by decide +kernel
theorem dX6_stepIs_64 : decode cX6_stepIs 64 = .ok (.invokevirtual 148, 3) := by decide +kernel
theorem dX6_stepIs_67 : decode cX6_stepIs 67 = .ok (.ireturn, 1) := by decide +kernel
set_option maxRecDepth 20000 in
theorem ggX6_hide_X6_isStep : GoodIn wsX6_hide wsX6_isStep := goodIn_r _ [5, 6, 7, 8, 4, 9, 20, 21, 22, 23, 24, 25, 26, 27, 28, 29, 30, 31, 32, 33, 34, 35, 36, 37, 38, 39] (by decide +kernel) (by decide +kernel)
set_option maxRecDepth 20000 in
theorem gX6_hide_X6_isStep : GoodIn wsX6_hide (wsV RX6 142 RX6 yX6_isStep wsX6_isStep) := goodIn_app (goodIn_of _ (by decide +kernel)) ggX6_hide_X6_isStep
set_option maxRecDepth 20000 in
theorem ggX6_hide_X6_change1 : GoodIn wsX6_hide wsX6_change1 := goodIn_r _ [13, 6, 20, 21, 22, 23, 24, 25, 26, 27, 28, 29, 30, 31, 32, 33, 34, 35, 36, 37, 38, 39] (by decide +kernel) (by decide +kernel)
set_option maxRecDepth 20000 in
theorem gX6_hide_X6_change1 : GoodIn wsX6_hide (wsV RX6 145 RX6 yX6_change1 wsX6_change1) := goodIn_app (goodIn_of _ (by decide +kernel)) ggX6_hide_X6_change1
set_option maxRecDepth 20000 in
theorem ggX6_hide_X6_error : GoodIn wsX6_hide wsX6_error := goodIn_r _ [17, 18, 19, 20, 21, 22, 23, 24, 25, 26, 27, 28, 29, 30, 31, 32, 33, 34, 35, 36, 37, 38, 39] (by decide +kernel) (by decide +kernel)
set_option maxRecDepth 20000 in
theorem gX6_hide_X6_error : GoodIn wsX6_hide (wsV RX6 55 RX6 yX6_error wsX6_error) := goodIn_app (goodIn_of _ (by decide +kernel)) ggX6_hide_X6_error
theorem dX6_hide_0 : decode cX6_hide 0 = .ok (.iload_n 1, 1) := by decide +kernel
theorem dX6_hide_1 : decode cX6_hide 1 = .ok (.iconst (-1), 1) := by decide +kernel
theorem dX6_hide_2 : decode cX6_hide 2 = .ok (.if_icmp .eq 11, 3) := by decide +kernel
theorem dX6_hide_5 : decode cX6_hide 5 = .ok (.aload_n 0, 1) := by decide +kernel
theorem dX6_hide_6 : decode cX6_hide 6 = .ok (.iload_n 1, 1) := by decide +kernel
theorem dX6_hide_7 : decode cX6_hide 7 = .ok (.invokevirtual 142, 3) := by decide +kernel
theorem dX6_hide_10 : decode cX6_hide 10 = .ok (.ifCond .eq 12, 3) := by decide +kernel
theorem dX6_hide_13 : decode cX6_hide 13 = .ok (.aload_n 0, 1) := by decide +kernel
theorem dX6_hide_14 : decode cX6_hide 14 = .ok (.iconst 2, 1) := by decide +kernel
theorem dX6_hide_15 : decode cX6_hide 15 = .ok (.iload_n 1, 1) := by decide +kernel
theorem dX6_hide_16 : decode cX6_hide 16 = .ok (.invokevirtual 145, 3) := by decide +kernel
theorem dX6_hide_19 : decode cX6_hide 19 = .ok (.goto 8, 3) := by decide +kernel
theorem dX6_hide_22 : decode cX6_hide 22 = .ok (.aload_n 0, 1) := by decide +kernel
theorem dX6_hide_23 : decode cX6_hide 23 = .ok (.iconst 1, 1) := by decide +kernel
theorem dX6_hide_24 : decode cX6_hide 24 = .ok (.invokevirtual 55, 3) := by decide +kernel
theorem dX6_hide_27 : decode cX6_hide 27 = .ok (.ireturn, 1) := by decide +kernel
set_option maxRecDepth 20000 in
theorem ggX6_isKind_X6_in : GoodIn wsX6_isKind wsX6_in := goodIn_r _ [4] (by decide +kernel) (by decide +kernel)
set_option maxRecDepth 20000 in
theorem gX6_isKind_X6_in : GoodIn wsX6_isKind (va_wsS RX6 51 yX6_in wsX6_in) := goodIn_app (goodIn_of _ (by decide +kernel)) ggX6_isKind_X6_in
theorem dX6_isKind_0 : decode cX6_isKind 0 = .ok (.iload_n 0, 1) := by decide +kernel
theorem dX6_isKind_1 : decode cX6_isKind 1 = .ok (.iconst 0, 1) := by decide +kernel
theorem dX6_isKind_2 : decode cX6_isKind 2 = .ok (.bipush 69, 2) := by decide +kernel
theorem dX6_isKind_4 : decode cX6_isKind 4 = .ok (.invokestatic 51, 3) := by decide +kernel
theorem dX6_isKind_7 : decode cX6_isKind 7 = .ok (.ireturn, 1) := by decide +kernel
set_option maxRecDepth 20000 in
theorem ggX6_climber_X6_isKind : GoodIn wsX6_climber wsX6_isKind := goodIn_r _ [5, 6, 7, 4, 8] (by decide +kernel) (by decide +kernel)
set_option maxRecDepth 20000 in
theorem gX6_climber_X6_isKind : GoodIn wsX6_climber (va_wsS RX6 151 yX6_isKind wsX6_isKind) := goodIn_app (goodIn_of _ (by decide +kernel)) ggX6_climber_X6_isKind
set_option maxRecDepth 20000 in
theorem ggX6_climber_X6_isStep : GoodIn wsX6_climber wsX6_isStep := goodIn_r _ [12, 1, 6, 7, 4, 8, 23, 24, 25, 26, 27, 28, 29, 30, 31, 32, 33, 34, 35, 36, 37, 38, 39, 40, 41, 42] (by decide +kernel) (by decide +kernel)
set_option maxRecDepth 20000 in
theorem gX6_climber_X6_isStep : GoodIn wsX6_climber (wsV RX6 142 RX6 yX6_isStep wsX6_isStep) := goodIn_app (goodIn_of _ (by decide +kernel)) ggX6_climber_X6_isStep
set_option maxRecDepth 20000 in
theorem ggX6_climber_X6_error : GoodIn wsX6_climber wsX6_error := goodIn_r _ [16, 17, 18, 23, 24, 25, 26, 27, 28, 29, 30, 31, 32, 33, 34, 35, 36, 37, 38, 39, 40, 41, 42] (by decide +kernel) (by decide +kernel)
set_option maxRecDepth 20000 in
theorem gX6_climber_X6_error : GoodIn wsX6_climber (wsV RX6 55 RX6 yX6_error wsX6_error) := goodIn_app (goodIn_of _ (by decide +kernel)) ggX6_climber_X6_error
set_option maxRecDepth 20000 in
theorem ggX6_climber_X6_lays1 : GoodIn wsX6_climber wsX6_lays1 := goodIn_r _ [22, 1, 23, 24, 25, 26, 27, 28, 29, 30, 31, 32, 33, 34, 35, 36, 37, 38, 39, 40, 41, 42] (by decide +kernel) (by decide +kernel)
set_option maxRecDepth 20000 in
theorem gX6_climber_X6_lays1 : GoodIn wsX6_climber (wsV RX6 134 RX6 yX6_lays1 wsX6_lays1) := goodIn_app (goodIn_of _ (by decide +kernel)) ggX6_climber_X6_lays1
theorem dX6_climber_0 : decode cX6_climber 0 = .ok (.iload_n 1, 1) := by decide +kernel
theorem dX6_climber_1 : decode cX6_climber 1 = .ok (.invokestatic 151, 3) := by decide +kernel
theorem dX6_climber_4 : decode cX6_climber 4 = .ok (.ifCond .eq 11, 3) := by decide +kernel
theorem dX6_climber_7 : decode cX6_climber 7 = .ok (.aload_n 0, 1) := by decide +kernel
theorem dX6_climber_8 : decode cX6_climber 8 = .ok (.iload_n 2, 1) := by decide +kernel
theorem dX6_climber_9 : decode cX6_climber 9 = .ok (.invokevirtual 142, 3) := by decide +kernel
theorem dX6_climber_12 : decode cX6_climber 12 = .ok (.ifCond .ne 9, 3) := by decide +kernel
theorem dX6_climber_15 : decode cX6_climber 15 = .ok (.aload_n 0, 1) := by decide +kernel
theorem dX6_climber_16 : decode cX6_climber 16 = .ok (.iconst 1, 1) := by decide +kernel
theorem dX6_climber_17 : decode cX6_climber 17 = .ok (.invokevirtual 55, 3) := by decide +kernel
theorem dX6_climber_20 : decode cX6_climber 20 = .ok (.ireturn, 1) := by decide +kernel
theorem dX6_climber_21 : decode cX6_climber 21 = .ok (.aload_n 0, 1) := by decide +kernel
theorem dX6_climber_22 : decode cX6_climber 22 = .ok (.getfield 7, 3) := by decide +kernel
theorem dX6_climber_25 : decode cX6_climber 25 = .ok (.bipush 6, 2) := by decide +kernel
theorem dX6_climber_27 : decode cX6_climber 27 = .ok (.iaload, 1) := by decide +kernel
theorem dX6_climber_28 : decode cX6_climber 28 = .ok (.bipush 6, 2) := by decide +kernel
theorem dX6_climber_30 : decode cX6_climber 30 = .ok (.if_icmp .ne 9, 3) := by decide +kernel
theorem dX6_climber_33 : decode cX6_climber 33 = .ok (.aload_n 0, 1) := by decide +kernel
theorem dX6_climber_34 : decode cX6_climber 34 = .ok (.iconst 4, 1) := by decide +kernel
theorem dX6_climber_35 : decode cX6_climber 35 = .ok (.invokevirtual 55, 3) := by decide +kernel
theorem dX6_climber_38 : decode cX6_climber 38 = .ok (.ireturn, 1) := by decide +kernel
theorem dX6_climber_39 : decode cX6_climber 39 = .ok (.aload_n 0, 1) := by decide +kernel
theorem dX6_climber_40 : decode cX6_climber 40 = .ok (.getfield 7, 3) := by decide +kernel
theorem dX6_climber_43 : decode cX6_climber 43 = .ok (.bipush 6, 2) := by decide +kernel
theorem dX6_climber_45 : decode cX6_climber 45 = .ok (.iaload, 1) := by decide +kernel
theorem dX6_climber_46 : decode cX6_climber 46 = .ok (.istore_n 3, 1) := by decide +kernel
theorem dX6_climber_47 : decode cX6_climber 47 = .ok (.aload_n 0, 1) := by decide +kernel
theorem dX6_climber_48 : decode cX6_climber 48 = .ok (.iload_n 3, 1) := by decide +kernel
theorem dX6_climber_49 : decode cX6_climber 49 = .ok (.iconst 0, 1) := by decide +kernel
theorem dX6_climber_50 : decode cX6_climber 50 = .ok (.iload_n 1, 1) := by decide +kernel
theorem dX6_climber_51 : decode cX6_climber 51 = .ok (.bipush 10, 2) := by decide +kernel
theorem dX6_climber_53 : decode cX6_climber 53 = .ok (.idiv, 1) := by decide +kernel
theorem dX6_climber_54 : decode cX6_climber 54 = .ok (.invokevirtual 134, 3) := by decide +kernel
theorem dX6_climber_57 : decode cX6_climber 57 = .ok (.aload_n 0, 1) := by decide +kernel
theorem dX6_climber_58 : decode cX6_climber 58 = .ok (.iload_n 3, 1) := by decide +kernel
theorem dX6_climber_59 : decode cX6_climber 59 = .ok (.iconst 1, 1) := by decide +kernel
theorem dX6_climber_60 : decode cX6_climber 60 = .ok (.iload_n 1, 1) := by decide +kernel
theorem dX6_climber_61 : decode cX6_climber 61 = .ok (.bipush 10, 2) := by decide +kernel
theorem dX6_climber_63 : decode cX6_climber 63 = .ok (.irem, 1) := by decide +kernel
theorem dX6_climber_64 : decode cX6_climber 64 = .ok (.invokevirtual 134, 3) := by decide +kernel
theorem dX6_climber_67 : decode cX6_climber 67 = .ok (.aload_n 0, 1) := by decide +kernel
theorem dX6_climber_68 : decode cX6_climber 68 = .ok (.iload_n 3, 1) := by decide +kernel
theorem dX6_climber_69 : decode cX6_climber 69 = .ok (.iconst 2, 1) := by decide +kernel
theorem dX6_climber_70 : decode cX6_climber 70 = .ok (.iload_n 2, 1) := by decide +kernel
theorem dX6_climber_71 : decode cX6_climber 71 = .ok (.invokevirtual 134, 3) := by decide +kernel
theorem dX6_climber_74 : decode cX6_climber 74 = .ok (.aload_n 0, 1) := by decide +kernel
theorem dX6_climber_75 : decode cX6_climber 75 = .ok (.iload_n 3, 1) := by decide +kernel
theorem dX6_climber_76 : decode cX6_climber 76 = .ok (.iconst 3, 1) := by decide +kernel
theorem dX6_climber_77 : decode cX6_climber 77 = .ok (.iconst 0, 1) := by decide +kernel
theorem dX6_climber_78 : decode cX6_climber 78 = .ok (.invokevirtual 134, 3) := by decide +kernel
theorem dX6_climber_81 : decode cX6_climber 81 = .ok (.aload_n 0, 1) := by decide +kernel
theorem dX6_climber_82 : decode cX6_climber 82 = .ok (.getfield 7, 3) := by decide +kernel
theorem dX6_climber_85 : decode cX6_climber 85 = .ok (.bipush 6, 2) := by decide +kernel
theorem dX6_climber_87 : decode cX6_climber 87 = .ok (.dup2, 1) := by decide +kernel
theorem dX6_climber_88 : decode cX6_climber 88 = .ok (.iaload, 1) := by decide +kernel
theorem dX6_climber_89 : decode cX6_climber 89 = .ok (.iconst 1, 1) := by decide +kernel
theorem dX6_climber_90 : decode cX6_climber 90 = .ok (.iadd, 1) := by decide +kernel
theorem dX6_climber_91 : decode cX6_climber 91 = .ok (.iastore, 1) := by decide +kernel
theorem dX6_climber_92 : decode cX6_climber 92 = .ok (.iload_n 3, 1) := by decide +kernel
theorem dX6_climber_93 : decode cX6_climber 93 = .ok (.ireturn, 1) := by decide +kernel
set_option maxRecDepth 20000 in
theorem ggX6_climberIs_X6_isClimber : GoodIn wsX6_climberIs wsX6_isClimber := goodIn_r _ [5, 6, 7, 8, 4, 9, 24, 25, 26, 27, 28, 29, 30, 31, 32, 33, 34, 35, 36, 37, 38, 39, 40, 41, 42, 43] (by decide +kernel) (by decide +kernel)
set_option maxRecDepth 20000 in
theorem gX6_climberIs_X6_isClimber : GoodIn wsX6_climberIs (wsV RX6 154 RX6 yX6_isClimber wsX6_isClimber) := goodIn_app (goodIn_of _ (by decide +kernel)) ggX6_climberIs_X6_isClimber
set_option maxRecDepth 20000 in
theorem ggX6_climberIs_X6_in : GoodIn wsX6_climberIs wsX6_in := goodIn_r _ [9] (by decide +kernel) (by decide +kernel)
set_option maxRecDepth 20000 in
theorem gX6_climberIs_X6_in : GoodIn wsX6_climberIs (va_wsS RX6 51 yX6_in wsX6_in) := goodIn_app (goodIn_of _ (by decide +kernel)) ggX6_climberIs_X6_in
set_option maxRecDepth 20000 in
theorem ggX6_climberIs_X6_error : GoodIn wsX6_climberIs wsX6_error := goodIn_r _ [13, 14, 15, 24, 25, 26, 27, 28, 29, 30, 31, 32, 33, 34, 35, 36, 37, 38, 39, 40, 41, 42, 43] (by decide +kernel) (by decide +kernel)
set_option maxRecDepth 20000 in
theorem gX6_climberIs_X6_error : GoodIn wsX6_climberIs (wsV RX6 55 RX6 yX6_error wsX6_error) := goodIn_app (goodIn_of _ (by decide +kernel)) ggX6_climberIs_X6_error
set_option maxRecDepth 20000 in
theorem ggX6_climberIs_X6_its : GoodIn wsX6_climberIs wsX6_its := goodIn_r _ [19, 6, 24, 25, 26, 27, 28, 29, 30, 31, 32, 33, 34, 35, 36, 37, 38, 39, 40, 41, 42, 43] (by decide +kernel) (by decide +kernel)
set_option maxRecDepth 20000 in
theorem gX6_climberIs_X6_its : GoodIn wsX6_climberIs (wsV RX6 115 RX6 yX6_its wsX6_its) := goodIn_app (goodIn_of _ (by decide +kernel)) ggX6_climberIs_X6_its
set_option maxRecDepth 20000 in
theorem ggX6_climberIs_X6_goesBy : GoodIn wsX6_climberIs wsX6_goesBy := goodIn_r _ [23, 6, 16, 17, 18, 4, 19, 24, 25, 26, 27, 28, 29, 30, 31, 32, 33, 34, 35, 36, 37, 38, 39, 40, 41, 42, 43] (by decide +kernel) (by decide +kernel)
set_option maxRecDepth 20000 in
theorem gX6_climberIs_X6_goesBy : GoodIn wsX6_climberIs (wsV RX6 128 RX6 yX6_goesBy wsX6_goesBy) := goodIn_app (goodIn_of _ (by decide +kernel)) ggX6_climberIs_X6_goesBy
theorem dX6_climberIs_0 : decode cX6_climberIs 0 = .ok (.aload_n 0, 1) := by decide +kernel
theorem dX6_climberIs_1 : decode cX6_climberIs 1 = .ok (.iload_n 1, 1) := by decide +kernel
theorem dX6_climberIs_2 : decode cX6_climberIs 2 = .ok (.invokevirtual 154, 3) := by decide +kernel
theorem dX6_climberIs_5 : decode cX6_climberIs 5 = .ok (.ifCond .eq 12, 3) := by decide +kernel
theorem dX6_climberIs_8 : decode cX6_climberIs 8 = .ok (.iload_n 2, 1) := by decide +kernel
theorem dX6_climberIs_9 : decode cX6_climberIs 9 = .ok (.iconst 0, 1) := by decide +kernel
theorem dX6_climberIs_10 : decode cX6_climberIs 10 = .ok (.iconst 4, 1) := by decide +kernel
theorem dX6_climberIs_11 : decode cX6_climberIs 11 = .ok (.invokestatic 51, 3) := by decide +kernel
theorem dX6_climberIs_14 : decode cX6_climberIs 14 = .ok (.ifCond .ne 9, 3) := by decide +kernel
theorem dX6_climberIs_17 : decode cX6_climberIs 17 = .ok (.aload_n 0, 1) := by decide +kernel
theorem dX6_climberIs_18 : decode cX6_climberIs 18 = .ok (.iconst 1, 1) := by decide +kernel
theorem dX6_climberIs_19 : decode cX6_climberIs 19 = .ok (.invokevirtual 55, 3) := by decide +kernel
theorem dX6_climberIs_22 : decode cX6_climberIs 22 = .ok (.ireturn, 1) := by decide +kernel
theorem dX6_climberIs_23 : decode cX6_climberIs 23 = .ok (.iload_n 2, 1) := by decide +kernel
theorem dX6_climberIs_24 : decode cX6_climberIs 24 = .ok (.iconst 4, 1) := by decide +kernel
theorem dX6_climberIs_25 : decode cX6_climberIs 25 = .ok (.if_icmp .ge 12, 3) := by decide +kernel
theorem dX6_climberIs_28 : decode cX6_climberIs 28 = .ok (.aload_n 0, 1) := by decide +kernel
theorem dX6_climberIs_29 : decode cX6_climberIs 29 = .ok (.iload_n 1, 1) := by decide +kernel
theorem dX6_climberIs_30 : decode cX6_climberIs 30 = .ok (.iload_n 2, 1) := by decide +kernel
theorem dX6_climberIs_31 : decode cX6_climberIs 31 = .ok (.invokevirtual 115, 3) := by decide +kernel
theorem dX6_climberIs_34 : decode cX6_climberIs 34 = .ok (.goto 8, 3) := by decide +kernel
theorem dX6_climberIs_37 : decode cX6_climberIs 37 = .ok (.aload_n 0, 1) := by decide +kernel
theorem dX6_climberIs_38 : decode cX6_climberIs 38 = .ok (.iload_n 1, 1) := by decide +kernel
theorem dX6_climberIs_39 : decode cX6_climberIs 39 = .ok (.invokevirtual 128, 3) := by decide +kernel
theorem dX6_climberIs_42 : decode cX6_climberIs 42 = .ok (.ireturn, 1) := by decide +kernel
set_option maxRecDepth 20000 in
theorem ggX6_become_X6_isClimber : GoodIn wsX6_become wsX6_isClimber := goodIn_r _ [5, 6, 7, 8, 4, 9, 27, 28, 29, 30, 31, 32, 33, 34, 35, 36, 37, 38, 39, 40, 41, 42, 43, 44, 45, 46] (by decide +kernel) (by decide +kernel)
set_option maxRecDepth 20000 in
theorem gX6_become_X6_isClimber : GoodIn wsX6_become (wsV RX6 154 RX6 yX6_isClimber wsX6_isClimber) := goodIn_app (goodIn_of _ (by decide +kernel)) ggX6_become_X6_isClimber
set_option maxRecDepth 20000 in
theorem ggX6_become_X6_isKind : GoodIn wsX6_become wsX6_isKind := goodIn_r _ [12, 7, 8, 4, 9] (by decide +kernel) (by decide +kernel)
set_option maxRecDepth 20000 in
theorem gX6_become_X6_isKind : GoodIn wsX6_become (va_wsS RX6 151 yX6_isKind wsX6_isKind) := goodIn_app (goodIn_of _ (by decide +kernel)) ggX6_become_X6_isKind
set_option maxRecDepth 20000 in
theorem ggX6_become_X6_error : GoodIn wsX6_become wsX6_error := goodIn_r _ [16, 17, 18, 27, 28, 29, 30, 31, 32, 33, 34, 35, 36, 37, 38, 39, 40, 41, 42, 43, 44, 45, 46] (by decide +kernel) (by decide +kernel)
set_option maxRecDepth 20000 in
theorem gX6_become_X6_error : GoodIn wsX6_become (wsV RX6 55 RX6 yX6_error wsX6_error) := goodIn_app (goodIn_of _ (by decide +kernel)) ggX6_become_X6_error
set_option maxRecDepth 20000 in
theorem ggX6_become_X6_lays1 : GoodIn wsX6_become wsX6_lays1 := goodIn_r _ [22, 6, 27, 28, 29, 30, 31, 32, 33, 34, 35, 36, 37, 38, 39, 40, 41, 42, 43, 44, 45, 46] (by decide +kernel) (by decide +kernel)
set_option maxRecDepth 20000 in
theorem gX6_become_X6_lays1 : GoodIn wsX6_become (wsV RX6 134 RX6 yX6_lays1 wsX6_lays1) := goodIn_app (goodIn_of _ (by decide +kernel)) ggX6_become_X6_lays1
set_option maxRecDepth 20000 in
theorem ggX6_become_X6_change1 : GoodIn wsX6_become wsX6_change1 := goodIn_r _ [26, 6, 27, 28, 29, 30, 31, 32, 33, 34, 35, 36, 37, 38, 39, 40, 41, 42, 43, 44, 45, 46] (by decide +kernel) (by decide +kernel)
set_option maxRecDepth 20000 in
theorem gX6_become_X6_change1 : GoodIn wsX6_become (wsV RX6 145 RX6 yX6_change1 wsX6_change1) := goodIn_app (goodIn_of _ (by decide +kernel)) ggX6_become_X6_change1
theorem dX6_become_0 : decode cX6_become 0 = .ok (.aload_n 0, 1) := by decide +kernel
theorem dX6_become_1 : decode cX6_become 1 = .ok (.iload_n 1, 1) := by decide +kernel
theorem dX6_become_2 : decode cX6_become 2 = .ok (.invokevirtual 154, 3) := by decide +kernel
theorem dX6_become_5 : decode cX6_become 5 = .ok (.ifCond .eq 10, 3) := by decide +kernel
theorem dX6_become_8 : decode cX6_become 8 = .ok (.iload_n 2, 1) := by decide +kernel
theorem dX6_become_9 : decode cX6_become 9 = .ok (.invokestatic 151, 3) := by decide +kernel
theorem dX6_become_12 : decode cX6_become 12 = .ok (.ifCond .ne 9, 3) := by decide +kernel
theorem dX6_become_15 : decode cX6_become 15 = .ok (.aload_n 0, 1) := by decide +kernel
theorem dX6_become_16 : decode cX6_become 16 = .ok (.iconst 1, 1) := by decide +kernel
theorem dX6_become_17 : decode cX6_become 17 = .ok (.invokevirtual 55, 3) := by decide +kernel
theorem dX6_become_20 : decode cX6_become 20 = .ok (.ireturn, 1) := by decide +kernel
theorem dX6_become_21 : decode cX6_become 21 = .ok (.aload_n 0, 1) := by decide +kernel
theorem dX6_become_22 : decode cX6_become 22 = .ok (.iload_n 1, 1) := by decide +kernel
theorem dX6_become_23 : decode cX6_become 23 = .ok (.iconst 1, 1) := by decide +kernel
theorem dX6_become_24 : decode cX6_become 24 = .ok (.iload_n 2, 1) := by decide +kernel
theorem dX6_become_25 : decode cX6_become 25 = .ok (.bipush 10, 2) := by decide +kernel
theorem dX6_become_27 : decode cX6_become 27 = .ok (.irem, 1) := by decide +kernel
theorem dX6_become_28 : decode cX6_become 28 = .ok (.invokevirtual 134, 3) := by decide +kernel
theorem dX6_become_31 : decode cX6_become 31 = .ok (.aload_n 0, 1) := by decide +kernel
theorem dX6_become_32 : decode cX6_become 32 = .ok (.bipush 8, 2) := by decide +kernel
theorem dX6_become_34 : decode cX6_become 34 = .ok (.iconst 4, 1) := by decide +kernel
theorem dX6_become_35 : decode cX6_become 35 = .ok (.iload_n 1, 1) := by decide +kernel
theorem dX6_become_36 : decode cX6_become 36 = .ok (.imul, 1) := by decide +kernel
theorem dX6_become_37 : decode cX6_become 37 = .ok (.iadd, 1) := by decide +kernel
theorem dX6_become_38 : decode cX6_become 38 = .ok (.iconst 0, 1) := by decide +kernel
theorem dX6_become_39 : decode cX6_become 39 = .ok (.iadd, 1) := by decide +kernel
theorem dX6_become_40 : decode cX6_become 40 = .ok (.iload_n 2, 1) := by decide +kernel
theorem dX6_become_41 : decode cX6_become 41 = .ok (.bipush 10, 2) := by decide +kernel
theorem dX6_become_43 : decode cX6_become 43 = .ok (.idiv, 1) := by decide +kernel
theorem dX6_become_44 : decode cX6_become 44 = .ok (.invokevirtual 145, 3) := by decide +kernel
theorem dX6_become_47 : decode cX6_become 47 = .ok (.ireturn, 1) := by decide +kernel
set_option maxRecDepth 20000 in
theorem ggX6_as_X6_isClimber : GoodIn wsX6_as wsX6_isClimber := goodIn_r _ [5, 6, 7, 8, 4, 9, 23, 24, 25, 26, 27, 28, 29, 30, 31, 32, 33, 34, 35, 36, 37, 38, 39, 40, 41, 42] (by decide +kernel) (by decide +kernel)
set_option maxRecDepth 20000 in
theorem gX6_as_X6_isClimber : GoodIn wsX6_as (wsV RX6 154 RX6 yX6_isClimber wsX6_isClimber) := goodIn_app (goodIn_of _ (by decide +kernel)) ggX6_as_X6_isClimber
set_option maxRecDepth 20000 in
theorem ggX6_as_X6_in : GoodIn wsX6_as wsX6_in := goodIn_r _ [9] (by decide +kernel) (by decide +kernel)
set_option maxRecDepth 20000 in
theorem gX6_as_X6_in : GoodIn wsX6_as (va_wsS RX6 51 yX6_in wsX6_in) := goodIn_app (goodIn_of _ (by decide +kernel)) ggX6_as_X6_in
set_option maxRecDepth 20000 in
theorem ggX6_as_X6_error : GoodIn wsX6_as wsX6_error := goodIn_r _ [13, 14, 15, 23, 24, 25, 26, 27, 28, 29, 30, 31, 32, 33, 34, 35, 36, 37, 38, 39, 40, 41, 42] (by decide +kernel) (by decide +kernel)
set_option maxRecDepth 20000 in
theorem gX6_as_X6_error : GoodIn wsX6_as (wsV RX6 55 RX6 yX6_error wsX6_error) := goodIn_app (goodIn_of _ (by decide +kernel)) ggX6_as_X6_error
set_option maxRecDepth 20000 in
theorem ggX6_as_X6_its : GoodIn wsX6_as wsX6_its := goodIn_r _ [19, 6, 23, 24, 25, 26, 27, 28, 29, 30, 31, 32, 33, 34, 35, 36, 37, 38, 39, 40, 41, 42] (by decide +kernel) (by decide +kernel)
set_option maxRecDepth 20000 in
theorem gX6_as_X6_its : GoodIn wsX6_as (wsV RX6 115 RX6 yX6_its wsX6_its) := goodIn_app (goodIn_of _ (by decide +kernel)) ggX6_as_X6_its
set_option maxRecDepth 20000 in
theorem ggX6_as_X6_above : GoodIn wsX6_as wsX6_above := goodIn_r _ [22] (by decide +kernel) (by decide +kernel)
set_option maxRecDepth 20000 in
theorem gX6_as_X6_above : GoodIn wsX6_as (va_wsS RX6 157 yX6_above wsX6_above) := goodIn_app (goodIn_of _ (by decide +kernel)) ggX6_as_X6_above
theorem dX6_as_0 : decode cX6_as 0 = .ok (.aload_n 0, 1) := by decide +kernel
theorem dX6_as_1 : decode cX6_as 1 = .ok (.iload_n 1, 1) := by decide +kernel
theorem dX6_as_2 : decode cX6_as 2 = .ok (.invokevirtual 154, 3) := by decide +kernel
theorem dX6_as_5 : decode cX6_as 5 = .ok (.ifCond .eq 13, 3) := by decide +kernel
theorem dX6_as_8 : decode cX6_as 8 = .ok (.iload_n 2, 1) := by decide +kernel
theorem dX6_as_9 : decode cX6_as 9 = .ok (.iconst 0, 1) := by decide +kernel
theorem dX6_as_10 : decode cX6_as 10 = .ok (.bipush 6, 2) := by decide +kernel
theorem dX6_as_12 : decode cX6_as 12 = .ok (.invokestatic 51, 3) := by decide +kernel
theorem dX6_as_15 : decode cX6_as 15 = .ok (.ifCond .ne 9, 3) := by decide +kernel
theorem dX6_as_18 : decode cX6_as 18 = .ok (.aload_n 0, 1) := by decide +kernel
theorem dX6_as_19 : decode cX6_as 19 = .ok (.iconst 1, 1) := by decide +kernel
theorem dX6_as_20 : decode cX6_as 20 = .ok (.invokevirtual 55, 3) := by decide +kernel
theorem dX6_as_23 : decode cX6_as 23 = .ok (.ireturn, 1) := by decide +kernel
theorem dX6_as_24 : decode cX6_as 24 = .ok (.aload_n 0, 1) := by decide +kernel
theorem dX6_as_25 : decode cX6_as 25 = .ok (.iload_n 1, 1) := by decide +kernel
theorem dX6_as_26 : decode cX6_as 26 = .ok (.iconst 0, 1) := by decide +kernel
theorem dX6_as_27 : decode cX6_as 27 = .ok (.invokevirtual 115, 3) := by decide +kernel
theorem dX6_as_30 : decode cX6_as 30 = .ok (.istore_n 3, 1) := by decide +kernel
theorem dX6_as_31 : decode cX6_as 31 = .ok (.iload_n 3, 1) := by decide +kernel
theorem dX6_as_32 : decode cX6_as 32 = .ok (.iload_n 2, 1) := by decide +kernel
theorem dX6_as_33 : decode cX6_as 33 = .ok (.if_icmp .eq 15, 3) := by decide +kernel
theorem dX6_as_36 : decode cX6_as 36 = .ok (.iload_n 3, 1) := by decide +kernel
theorem dX6_as_37 : decode cX6_as 37 = .ok (.ifCond .eq 11, 3) := by decide +kernel
theorem dX6_as_40 : decode cX6_as 40 = .ok (.iload_n 3, 1) := by decide +kernel
theorem dX6_as_41 : decode cX6_as 41 = .ok (.invokestatic 157, 3) := by decide +kernel
theorem dX6_as_44 : decode cX6_as 44 = .ok (.istore_n 3, 1) := by decide +kernel
theorem dX6_as_45 : decode cX6_as 45 = .ok (.goto (-14), 3) := by decide +kernel
theorem dX6_as_48 : decode cX6_as 48 = .ok (.iload_n 3, 1) := by decide +kernel
theorem dX6_as_49 : decode cX6_as 49 = .ok (.iload_n 2, 1) := by decide +kernel
theorem dX6_as_50 : decode cX6_as 50 = .ok (.if_icmp .ne 12, 3) := by decide +kernel
theorem dX6_as_53 : decode cX6_as 53 = .ok (.aload_n 0, 1) := by decide +kernel
theorem dX6_as_54 : decode cX6_as 54 = .ok (.iload_n 1, 1) := by decide +kernel
theorem dX6_as_55 : decode cX6_as 55 = .ok (.iconst 1, 1) := by decide +kernel
theorem dX6_as_56 : decode cX6_as 56 = .ok (.invokevirtual 115, 3) := by decide +kernel
theorem dX6_as_59 : decode cX6_as 59 = .ok (.goto 8, 3) := by decide +kernel
theorem dX6_as_62 : decode cX6_as 62 = .ok (.aload_n 0, 1) := by decide +kernel
theorem dX6_as_63 : decode cX6_as 63 = .ok (.iconst 5, 1) := by decide +kernel
theorem dX6_as_64 : decode cX6_as 64 = .ok (.invokevirtual 55, 3) := by decide +kernel
theorem dX6_as_67 : decode cX6_as 67 = .ok (.ireturn, 1) := by decide +kernel
set_option maxRecDepth 20000 in
theorem ggX6_carry_X6_isClimber : GoodIn wsX6_carry wsX6_isClimber := goodIn_r _ [5, 6, 7, 8, 4, 9, 24, 25, 26, 27, 28, 29, 30, 31, 32, 33, 34, 35, 36, 37, 38, 39, 40, 41, 42, 43] (by decide +kernel) (by decide +kernel)
set_option maxRecDepth 20000 in
theorem gX6_carry_X6_isClimber : GoodIn wsX6_carry (wsV RX6 154 RX6 yX6_isClimber wsX6_isClimber) := goodIn_app (goodIn_of _ (by decide +kernel)) ggX6_carry_X6_isClimber
set_option maxRecDepth 20000 in
theorem ggX6_carry_X6_isStep : GoodIn wsX6_carry wsX6_isStep := goodIn_r _ [13, 6, 7, 8, 4, 9, 24, 25, 26, 27, 28, 29, 30, 31, 32, 33, 34, 35, 36, 37, 38, 39, 40, 41, 42, 43] (by decide +kernel) (by decide +kernel)
set_option maxRecDepth 20000 in
theorem gX6_carry_X6_isStep : GoodIn wsX6_carry (wsV RX6 142 RX6 yX6_isStep wsX6_isStep) := goodIn_app (goodIn_of _ (by decide +kernel)) ggX6_carry_X6_isStep
set_option maxRecDepth 20000 in
theorem ggX6_carry_X6_change1 : GoodIn wsX6_carry wsX6_change1 := goodIn_r _ [17, 6, 24, 25, 26, 27, 28, 29, 30, 31, 32, 33, 34, 35, 36, 37, 38, 39, 40, 41, 42, 43] (by decide +kernel) (by decide +kernel)
set_option maxRecDepth 20000 in
theorem gX6_carry_X6_change1 : GoodIn wsX6_carry (wsV RX6 145 RX6 yX6_change1 wsX6_change1) := goodIn_app (goodIn_of _ (by decide +kernel)) ggX6_carry_X6_change1
set_option maxRecDepth 20000 in
theorem ggX6_carry_X6_error : GoodIn wsX6_carry wsX6_error := goodIn_r _ [21, 22, 23, 24, 25, 26, 27, 28, 29, 30, 31, 32, 33, 34, 35, 36, 37, 38, 39, 40, 41, 42, 43] (by decide +kernel) (by decide +kernel)
set_option maxRecDepth 20000 in
theorem gX6_carry_X6_error : GoodIn wsX6_carry (wsV RX6 55 RX6 yX6_error wsX6_error) := goodIn_app (goodIn_of _ (by decide +kernel)) ggX6_carry_X6_error
theorem dX6_carry_0 : decode cX6_carry 0 = .ok (.aload_n 0, 1) := by decide +kernel
theorem dX6_carry_1 : decode cX6_carry 1 = .ok (.iload_n 1, 1) := by decide +kernel
theorem dX6_carry_2 : decode cX6_carry 2 = .ok (.invokevirtual 154, 3) := by decide +kernel
theorem dX6_carry_5 : decode cX6_carry 5 = .ok (.ifCond .eq 27, 3) := by decide +kernel
theorem dX6_carry_8 : decode cX6_carry 8 = .ok (.aload_n 0, 1) := by decide +kernel
theorem dX6_carry_9 : decode cX6_carry 9 = .ok (.iload_n 2, 1) := by decide +kernel
theorem dX6_carry_10 : decode cX6_carry 10 = .ok (.invokevirtual 142, 3) := by decide +kernel
theorem dX6_carry_13 : decode cX6_carry 13 = .ok (.ifCond .eq 19, 3) := by decide +kernel
theorem dX6_carry_16 : decode cX6_carry 16 = .ok (.aload_n 0, 1) := by decide +kernel
theorem dX6_carry_17 : decode cX6_carry 17 = .ok (.bipush 8, 2) := by decide +kernel
theorem dX6_carry_19 : decode cX6_carry 19 = .ok (.iconst 4, 1) := by decide +kernel
theorem dX6_carry_20 : decode cX6_carry 20 = .ok (.iload_n 1, 1) := by decide +kernel
theorem dX6_carry_21 : decode cX6_carry 21 = .ok (.imul, 1) := by decide +kernel
theorem dX6_carry_22 : decode cX6_carry 22 = .ok (.iadd, 1) := by decide +kernel
theorem dX6_carry_23 : decode cX6_carry 23 = .ok (.iconst 2, 1) := by decide +kernel
theorem dX6_carry_24 : decode cX6_carry 24 = .ok (.iadd, 1) := by decide +kernel
theorem dX6_carry_25 : decode cX6_carry 25 = .ok (.iload_n 2, 1) := by decide +kernel
theorem dX6_carry_26 : decode cX6_carry 26 = .ok (.invokevirtual 145, 3) := by decide +kernel
theorem dX6_carry_29 : decode cX6_carry 29 = .ok (.goto 8, 3) := by decide +kernel
theorem dX6_carry_32 : decode cX6_carry 32 = .ok (.aload_n 0, 1) := by decide +kernel
theorem dX6_carry_33 : decode cX6_carry 33 = .ok (.iconst 1, 1) := by decide +kernel
theorem dX6_carry_34 : decode cX6_carry 34 = .ok (.invokevirtual 55, 3) := by decide +kernel
theorem dX6_carry_37 : decode cX6_carry 37 = .ok (.ireturn, 1) := by decide +kernel
set_option maxRecDepth 20000 in
theorem ggX6_height_X6_isClimber : GoodIn wsX6_height wsX6_isClimber := goodIn_r _ [5, 6, 7, 8, 4, 9, 20, 21, 22, 23, 24, 25, 26, 27, 28, 29, 30, 31, 32, 33, 34, 35, 36, 37, 38, 39] (by decide +kernel) (by decide +kernel)
set_option maxRecDepth 20000 in
theorem gX6_height_X6_isClimber : GoodIn wsX6_height (wsV RX6 154 RX6 yX6_isClimber wsX6_isClimber) := goodIn_app (goodIn_of _ (by decide +kernel)) ggX6_height_X6_isClimber
set_option maxRecDepth 20000 in
theorem ggX6_height_X6_in : GoodIn wsX6_height wsX6_in := goodIn_r _ [9] (by decide +kernel) (by decide +kernel)
set_option maxRecDepth 20000 in
theorem gX6_height_X6_in : GoodIn wsX6_height (va_wsS RX6 51 yX6_in wsX6_in) := goodIn_app (goodIn_of _ (by decide +kernel)) ggX6_height_X6_in
set_option maxRecDepth 20000 in
theorem ggX6_height_X6_change1 : GoodIn wsX6_height wsX6_change1 := goodIn_r _ [13, 6, 20, 21, 22, 23, 24, 25, 26, 27, 28, 29, 30, 31, 32, 33, 34, 35, 36, 37, 38, 39] (by decide +kernel) (by decide +kernel)
set_option maxRecDepth 20000 in
theorem gX6_height_X6_change1 : GoodIn wsX6_height (wsV RX6 145 RX6 yX6_change1 wsX6_change1) := goodIn_app (goodIn_of _ (by decide +kernel)) ggX6_height_X6_change1
set_option maxRecDepth 20000 in
theorem ggX6_height_X6_error : GoodIn wsX6_height wsX6_error := goodIn_r _ [17, 18, 19, 20, 21, 22, 23, 24, 25, 26, 27, 28, 29, 30, 31, 32, 33, 34, 35, 36, 37, 38, 39] (by decide +kernel) (by decide +kernel)
set_option maxRecDepth 20000 in
theorem gX6_height_X6_error : GoodIn wsX6_height (wsV RX6 55 RX6 yX6_error wsX6_error) := goodIn_app (goodIn_of _ (by decide +kernel)) ggX6_height_X6_error
theorem dX6_height_0 : decode cX6_height 0 = .ok (.aload_n 0, 1) := by decide +kernel
theorem dX6_height_1 : decode cX6_height 1 = .ok (.iload_n 1, 1) := by decide +kernel
theorem dX6_height_2 : decode cX6_height 2 = .ok (.invokevirtual 154, 3) := by decide +kernel
theorem dX6_height_5 : decode cX6_height 5 = .ok (.ifCond .eq 32, 3) := by decide +kernel
theorem dX6_height_8 : decode cX6_height 8 = .ok (.iload_n 2, 1) := by decide +kernel
theorem dX6_height_9 : decode cX6_height 9 = .ok (.sipush (-9999), 3) := by decide +kernel
theorem dX6_height_12 : decode cX6_height 12 = .ok (.sipush 9999, 3) := by decide +kernel
theorem dX6_height_15 : decode cX6_height 15 = .ok (.invokestatic 51, 3) := by decide +kernel
theorem dX6_height_18 : decode cX6_height 18 = .ok (.ifCond .eq 19, 3) := by decide +kernel
theorem dX6_height_21 : decode cX6_height 21 = .ok (.aload_n 0, 1) := by decide +kernel
theorem dX6_height_22 : decode cX6_height 22 = .ok (.bipush 8, 2) := by decide +kernel
theorem dX6_height_24 : decode cX6_height 24 = .ok (.iconst 4, 1) := by decide +kernel
theorem dX6_height_25 : decode cX6_height 25 = .ok (.iload_n 1, 1) := by decide +kernel
theorem dX6_height_26 : decode cX6_height 26 = .ok (.imul, 1) := by decide +kernel
theorem dX6_height_27 : decode cX6_height 27 = .ok (.iadd, 1) := by decide +kernel
theorem dX6_height_28 : decode cX6_height 28 = .ok (.iconst 3, 1) := by decide +kernel
theorem dX6_height_29 : decode cX6_height 29 = .ok (.iadd, 1) := by decide +kernel
theorem dX6_height_30 : decode cX6_height 30 = .ok (.iload_n 2, 1) := by decide +kernel
theorem dX6_height_31 : decode cX6_height 31 = .ok (.invokevirtual 145, 3) := by decide +kernel
theorem dX6_height_34 : decode cX6_height 34 = .ok (.goto 8, 3) := by decide +kernel
theorem dX6_height_37 : decode cX6_height 37 = .ok (.aload_n 0, 1) := by decide +kernel
theorem dX6_height_38 : decode cX6_height 38 = .ok (.iconst 1, 1) := by decide +kernel
theorem dX6_height_39 : decode cX6_height 39 = .ok (.invokevirtual 55, 3) := by decide +kernel
theorem dX6_height_42 : decode cX6_height 42 = .ok (.ireturn, 1) := by decide +kernel
set_option maxRecDepth 20000 in
theorem ggX6_law_X6_in : GoodIn wsX6_law wsX6_in := goodIn_r _ [4] (by decide +kernel) (by decide +kernel)
set_option maxRecDepth 20000 in
theorem gX6_law_X6_in : GoodIn wsX6_law (va_wsS RX6 51 yX6_in wsX6_in) := goodIn_app (goodIn_of _ (by decide +kernel)) ggX6_law_X6_in
set_option maxRecDepth 20000 in
theorem ggX6_law_X6_error : GoodIn wsX6_law wsX6_error := goodIn_r _ [8, 9, 10, 36, 37, 38, 39, 40, 41, 42, 43, 44, 45, 46, 47, 48, 49, 50, 51, 52, 53, 54, 55] (by decide +kernel) (by decide +kernel)
set_option maxRecDepth 20000 in
theorem gX6_law_X6_error : GoodIn wsX6_law (wsV RX6 55 RX6 yX6_error wsX6_error) := goodIn_app (goodIn_of _ (by decide +kernel)) ggX6_law_X6_error
set_option maxRecDepth 20000 in
theorem ggX6_law_X6_countedTold : GoodIn wsX6_law wsX6_countedTold := goodIn_r _ [14, 15, 16, 17, 18, 3, 19, 20, 21, 22, 23, 24, 25, 26, 27, 28, 29, 30, 31, 36, 37, 38, 39, 40, 41, 42, 43, 44, 45, 46, 47, 48, 49, 50, 51, 52, 53, 54, 55] (by decide +kernel) (by decide +kernel)
set_option maxRecDepth 20000 in
theorem gX6_law_X6_countedTold : GoodIn wsX6_law (wsV RX6 125 RX6 yX6_countedTold wsX6_countedTold) := goodIn_app (goodIn_of _ (by decide +kernel)) ggX6_law_X6_countedTold
set_option maxRecDepth 20000 in
theorem ggX6_law_X6_worthTold : GoodIn wsX6_law wsX6_worthTold := goodIn_r _ [35, 15, 16, 17, 18, 3, 19, 20, 21, 22, 23, 24, 25, 26, 27, 28, 29, 30, 31, 36, 37, 38, 39, 40, 41, 42, 43, 44, 45, 46, 47, 48, 49, 50, 51, 52, 53, 54, 55] (by decide +kernel) (by decide +kernel)
set_option maxRecDepth 20000 in
theorem gX6_law_X6_worthTold : GoodIn wsX6_law (wsV RX6 160 RX6 yX6_worthTold wsX6_worthTold) := goodIn_app (goodIn_of _ (by decide +kernel)) ggX6_law_X6_worthTold
theorem dX6_law_0 : decode cX6_law 0 = .ok (.iload_n 1, 1) := by decide +kernel
theorem dX6_law_1 : decode cX6_law 1 = .ok (.iconst 0, 1) := by decide +kernel
theorem dX6_law_2 : decode cX6_law 2 = .ok (.iconst 1, 1) := by decide +kernel
theorem dX6_law_3 : decode cX6_law 3 = .ok (.invokestatic 51, 3) := by decide +kernel
theorem dX6_law_6 : decode cX6_law 6 = .ok (.ifCond .ne 9, 3) := by decide +kernel
theorem dX6_law_9 : decode cX6_law 9 = .ok (.aload_n 0, 1) := by decide +kernel
theorem dX6_law_10 : decode cX6_law 10 = .ok (.iconst 1, 1) := by decide +kernel
theorem dX6_law_11 : decode cX6_law 11 = .ok (.invokevirtual 55, 3) := by decide +kernel
theorem dX6_law_14 : decode cX6_law 14 = .ok (.ireturn, 1) := by decide +kernel
theorem dX6_law_15 : decode cX6_law 15 = .ok (.iload_n 1, 1) := by decide +kernel
theorem dX6_law_16 : decode cX6_law 16 = .ok (.ifCond .ne 14, 3) := by decide +kernel
theorem dX6_law_19 : decode cX6_law 19 = .ok (.aload_n 0, 1) := by decide +kernel
theorem dX6_law_20 : decode cX6_law 20 = .ok (.iload_n 2, 1) := by decide +kernel
theorem dX6_law_21 : decode cX6_law 21 = .ok (.iload_n 3, 1) := by decide +kernel
theorem dX6_law_22 : decode cX6_law 22 = .ok (.iload 4, 2) := by decide +kernel
theorem dX6_law_24 : decode cX6_law 24 = .ok (.invokevirtual 125, 3) := by decide +kernel
theorem dX6_law_27 : decode cX6_law 27 = .ok (.goto 11, 3) := by decide +kernel
theorem dX6_law_30 : decode cX6_law 30 = .ok (.aload_n 0, 1) := by decide +kernel
theorem dX6_law_31 : decode cX6_law 31 = .ok (.iload_n 2, 1) := by decide +kernel
theorem dX6_law_32 : decode cX6_law 32 = .ok (.iload_n 3, 1) := by decide +kernel
theorem dX6_law_33 : decode cX6_law 33 = .ok (.iload 4, 2) := by decide +kernel
theorem dX6_law_35 : decode cX6_law 35 = .ok (.invokevirtual 160, 3) := by decide +kernel
theorem dX6_law_38 : decode cX6_law 38 = .ok (.ireturn, 1) := by decide +kernel
set_option maxRecDepth 20000 in
theorem ggX6_whyNot_X6_in : GoodIn wsX6_whyNot wsX6_in := goodIn_r _ [5] (by decide +kernel) (by decide +kernel)
set_option maxRecDepth 20000 in
theorem gX6_whyNot_X6_in : GoodIn wsX6_whyNot (va_wsS RX6 51 yX6_in wsX6_in) := goodIn_app (goodIn_of _ (by decide +kernel)) ggX6_whyNot_X6_in
theorem dX6_whyNot_0 : decode cX6_whyNot 0 = .ok (.iload_n 1, 1) := by decide +kernel
theorem dX6_whyNot_1 : decode cX6_whyNot 1 = .ok (.iconst 1, 1) := by decide +kernel
theorem dX6_whyNot_2 : decode cX6_whyNot 2 = .ok (.iload_n 2, 1) := by decide +kernel
theorem dX6_whyNot_3 : decode cX6_whyNot 3 = .ok (.invokestatic 51, 3) := by decide +kernel
theorem dX6_whyNot_6 : decode cX6_whyNot 6 = .ok (.ifCond .ne 7, 3) := by decide +kernel
theorem dX6_whyNot_9 : decode cX6_whyNot 9 = .ok (.iconst 1, 1) := by decide +kernel
theorem dX6_whyNot_10 : decode cX6_whyNot 10 = .ok (.goto 22, 3) := by decide +kernel
theorem dX6_whyNot_13 : decode cX6_whyNot 13 = .ok (.aload_n 0, 1) := by decide +kernel
theorem dX6_whyNot_14 : decode cX6_whyNot 14 = .ok (.getfield 7, 3) := by decide +kernel
theorem dX6_whyNot_17 : decode cX6_whyNot 17 = .ok (.iconst 0, 1) := by decide +kernel
theorem dX6_whyNot_18 : decode cX6_whyNot 18 = .ok (.iaload, 1) := by decide +kernel
theorem dX6_whyNot_19 : decode cX6_whyNot 19 = .ok (.iload_n 1, 1) := by decide +kernel
theorem dX6_whyNot_20 : decode cX6_whyNot 20 = .ok (.iadd, 1) := by decide +kernel
theorem dX6_whyNot_21 : decode cX6_whyNot 21 = .ok (.sipush 9999, 3) := by decide +kernel
theorem dX6_whyNot_24 : decode cX6_whyNot 24 = .ok (.if_icmp .le 7, 3) := by decide +kernel
theorem dX6_whyNot_27 : decode cX6_whyNot 27 = .ok (.iconst 3, 1) := by decide +kernel
theorem dX6_whyNot_28 : decode cX6_whyNot 28 = .ok (.goto 4, 3) := by decide +kernel
theorem dX6_whyNot_31 : decode cX6_whyNot 31 = .ok (.iconst 0, 1) := by decide +kernel
theorem dX6_whyNot_32 : decode cX6_whyNot 32 = .ok (.ireturn, 1) := by decide +kernel
set_option maxRecDepth 20000 in
theorem ggX6_minutes_X6_whyNot : GoodIn wsX6_minutes wsX6_whyNot := goodIn_r _ [5, 6, 7, 8, 4, 9, 64, 65, 66, 67, 68, 69, 70, 71, 72, 73, 74, 75, 76, 77, 78, 79, 80, 81, 82, 83] (by decide +kernel) (by decide +kernel)
set_option maxRecDepth 20000 in
theorem gX6_minutes_X6_whyNot : GoodIn wsX6_minutes (wsV RX6 163 RX6 yX6_whyNot wsX6_whyNot) := goodIn_app (goodIn_of _ (by decide +kernel)) ggX6_minutes_X6_whyNot
set_option maxRecDepth 20000 in
theorem ggX6_minutes_X6_error : GoodIn wsX6_minutes wsX6_error := goodIn_r _ [13, 14, 15, 64, 65, 66, 67, 68, 69, 70, 71, 72, 73, 74, 75, 76, 77, 78, 79, 80, 81, 82, 83] (by decide +kernel) (by decide +kernel)
set_option maxRecDepth 20000 in
theorem gX6_minutes_X6_error : GoodIn wsX6_minutes (wsV RX6 55 RX6 yX6_error wsX6_error) := goodIn_app (goodIn_of _ (by decide +kernel)) ggX6_minutes_X6_error
set_option maxRecDepth 20000 in
theorem ggX6_minutes_X6_minute : GoodIn wsX6_minutes wsX6_minute := goodIn_r _ [19, 6, 20, 21, 22, 4, 23, 24, 25, 26, 27, 28, 29, 30, 31, 32, 33, 34, 35, 36, 37, 38, 39, 40, 41, 42, 43, 44, 45, 46, 47, 48, 49, 50, 51, 52, 53, 54, 55, 56, 57, 58, 59, 64, 65, 66, 67, 68, 69, 70, 71, 72, 73, 74, 75, 76, 77, 78, 79, 80, 81, 82, 83] (by decide +kernel) (by decide +kernel)
set_option maxRecDepth 20000 in
theorem gX6_minutes_X6_minute : GoodIn wsX6_minutes (wsV RX6 166 RX6 yX6_minute wsX6_minute) := goodIn_app (goodIn_of _ (by decide +kernel)) ggX6_minutes_X6_minute
set_option maxRecDepth 20000 in
theorem ggX6_minutes_X6_pairs : GoodIn wsX6_minutes wsX6_pairs := goodIn_r _ [63, 6, 28, 29, 30, 4, 31, 64, 65, 66, 67, 68, 69, 70, 71, 72, 73, 74, 75, 76, 77, 78, 79, 80, 81, 82, 83] (by decide +kernel) (by decide +kernel)
set_option maxRecDepth 20000 in
theorem gX6_minutes_X6_pairs : GoodIn wsX6_minutes (wsV RX6 169 RX6 yX6_pairs wsX6_pairs) := goodIn_app (goodIn_of _ (by decide +kernel)) ggX6_minutes_X6_pairs
theorem dX6_minutes_0 : decode cX6_minutes 0 = .ok (.aload_n 0, 1) := by decide +kernel
theorem dX6_minutes_1 : decode cX6_minutes 1 = .ok (.iload_n 1, 1) := by decide +kernel
theorem dX6_minutes_2 : decode cX6_minutes 2 = .ok (.sipush 200, 3) := by decide +kernel
theorem dX6_minutes_5 : decode cX6_minutes 5 = .ok (.invokevirtual 163, 3) := by decide +kernel
theorem dX6_minutes_8 : decode cX6_minutes 8 = .ok (.istore_n 2, 1) := by decide +kernel
theorem dX6_minutes_9 : decode cX6_minutes 9 = .ok (.iload_n 2, 1) := by decide +kernel
theorem dX6_minutes_10 : decode cX6_minutes 10 = .ok (.ifCond .eq 9, 3) := by decide +kernel
theorem dX6_minutes_13 : decode cX6_minutes 13 = .ok (.aload_n 0, 1) := by decide +kernel
theorem dX6_minutes_14 : decode cX6_minutes 14 = .ok (.iload_n 2, 1) := by decide +kernel
theorem dX6_minutes_15 : decode cX6_minutes 15 = .ok (.invokevirtual 55, 3) := by decide +kernel
theorem dX6_minutes_18 : decode cX6_minutes 18 = .ok (.ireturn, 1) := by decide +kernel
theorem dX6_minutes_19 : decode cX6_minutes 19 = .ok (.iconst 0, 1) := by decide +kernel
theorem dX6_minutes_20 : decode cX6_minutes 20 = .ok (.istore_n 3, 1) := by decide +kernel
theorem dX6_minutes_21 : decode cX6_minutes 21 = .ok (.iload_n 3, 1) := by decide +kernel
theorem dX6_minutes_22 : decode cX6_minutes 22 = .ok (.iload_n 1, 1) := by decide +kernel
theorem dX6_minutes_23 : decode cX6_minutes 23 = .ok (.if_icmp .ge 13, 3) := by decide +kernel
theorem dX6_minutes_26 : decode cX6_minutes 26 = .ok (.aload_n 0, 1) := by decide +kernel
theorem dX6_minutes_27 : decode cX6_minutes 27 = .ok (.invokevirtual 166, 3) := by decide +kernel
theorem dX6_minutes_30 : decode cX6_minutes 30 = .ok (.iinc 3 1, 3) := by decide +kernel
theorem dX6_minutes_33 : decode cX6_minutes 33 = .ok (.goto (-12), 3) := by decide +kernel
theorem dX6_minutes_36 : decode cX6_minutes 36 = .ok (.aload_n 0, 1) := by decide +kernel
theorem dX6_minutes_37 : decode cX6_minutes 37 = .ok (.invokevirtual 169, 3) := by decide +kernel
theorem dX6_minutes_40 : decode cX6_minutes 40 = .ok (.ireturn, 1) := by decide +kernel
set_option maxRecDepth 20000 in
theorem ggX6_loose_X6_whyNot : GoodIn wsX6_loose wsX6_whyNot := goodIn_r _ [6, 1, 7, 8, 5, 9, 69, 70, 71, 72, 73, 74, 75, 76, 77, 78, 79, 80, 81, 82, 83, 84, 85, 86, 87, 88] (by decide +kernel) (by decide +kernel)
set_option maxRecDepth 20000 in
theorem gX6_loose_X6_whyNot : GoodIn wsX6_loose (wsV RX6 163 RX6 yX6_whyNot wsX6_whyNot) := goodIn_app (goodIn_of _ (by decide +kernel)) ggX6_loose_X6_whyNot
set_option maxRecDepth 20000 in
theorem ggX6_loose_X6_error : GoodIn wsX6_loose wsX6_error := goodIn_r _ [13, 14, 15, 69, 70, 71, 72, 73, 74, 75, 76, 77, 78, 79, 80, 81, 82, 83, 84, 85, 86, 87, 88] (by decide +kernel) (by decide +kernel)
set_option maxRecDepth 20000 in
theorem gX6_loose_X6_error : GoodIn wsX6_loose (wsV RX6 55 RX6 yX6_error wsX6_error) := goodIn_app (goodIn_of _ (by decide +kernel)) ggX6_loose_X6_error
set_option maxRecDepth 20000 in
theorem ggX6_loose_X6_draw : GoodIn wsX6_loose wsX6_draw := goodIn_r _ [19, 1, 20, 69, 70, 71, 72, 73, 74, 75, 76, 77, 78, 79, 80, 81, 82, 83, 84, 85, 86, 87, 88] (by decide +kernel) (by decide +kernel)
set_option maxRecDepth 20000 in
theorem gX6_loose_X6_draw : GoodIn wsX6_loose (wsV RX6 172 RX6 yX6_draw wsX6_draw) := goodIn_app (goodIn_of _ (by decide +kernel)) ggX6_loose_X6_draw
set_option maxRecDepth 20000 in
theorem ggX6_loose_X6_lays1 : GoodIn wsX6_loose wsX6_lays1 := goodIn_r _ [24, 1, 69, 70, 71, 72, 73, 74, 75, 76, 77, 78, 79, 80, 81, 82, 83, 84, 85, 86, 87, 88] (by decide +kernel) (by decide +kernel)
set_option maxRecDepth 20000 in
theorem gX6_loose_X6_lays1 : GoodIn wsX6_loose (wsV RX6 134 RX6 yX6_lays1 wsX6_lays1) := goodIn_app (goodIn_of _ (by decide +kernel)) ggX6_loose_X6_lays1
set_option maxRecDepth 20000 in
theorem ggX6_loose_X6_minute : GoodIn wsX6_loose wsX6_minute := goodIn_r _ [28, 1, 29, 30, 31, 5, 32, 33, 34, 35, 36, 37, 38, 39, 40, 41, 42, 43, 44, 45, 46, 47, 48, 49, 50, 51, 52, 53, 54, 55, 56, 57, 58, 59, 60, 61, 62, 63, 64, 21, 22, 23, 24, 69, 70, 71, 72, 73, 74, 75, 76, 77, 78, 79, 80, 81, 82, 83, 84, 85, 86, 87, 88] (by decide +kernel) (by decide +kernel)
set_option maxRecDepth 20000 in
theorem gX6_loose_X6_minute : GoodIn wsX6_loose (wsV RX6 166 RX6 yX6_minute wsX6_minute) := goodIn_app (goodIn_of _ (by decide +kernel)) ggX6_loose_X6_minute
set_option maxRecDepth 20000 in
theorem ggX6_loose_X6_pairs : GoodIn wsX6_loose wsX6_pairs := goodIn_r _ [68, 1, 37, 38, 39, 5, 40, 69, 70, 71, 72, 73, 74, 75, 76, 77, 78, 79, 80, 81, 82, 83, 84, 85, 86, 87, 88] (by decide +kernel) (by decide +kernel)
set_option maxRecDepth 20000 in
theorem gX6_loose_X6_pairs : GoodIn wsX6_loose (wsV RX6 169 RX6 yX6_pairs wsX6_pairs) := goodIn_app (goodIn_of _ (by decide +kernel)) ggX6_loose_X6_pairs
theorem dX6_loose_0 : decode cX6_loose 0 = .ok (.aload_n 0, 1) := by decide +kernel
theorem dX6_loose_1 : decode cX6_loose 1 = .ok (.iload_n 1, 1) := by decide +kernel
theorem dX6_loose_2 : decode cX6_loose 2 = .ok (.bipush 40, 2) := by decide +kernel
theorem dX6_loose_4 : decode cX6_loose 4 = .ok (.invokevirtual 163, 3) := by decide +kernel
theorem dX6_loose_7 : decode cX6_loose 7 = .ok (.istore_n 2, 1) := by decide +kernel
theorem dX6_loose_8 : decode cX6_loose 8 = .ok (.iload_n 2, 1) := by decide +kernel
theorem dX6_loose_9 : decode cX6_loose 9 = .ok (.ifCond .eq 9, 3) := by decide +kernel
theorem dX6_loose_12 : decode cX6_loose 12 = .ok (.aload_n 0, 1) := by decide +kernel
theorem dX6_loose_13 : decode cX6_loose 13 = .ok (.iload_n 2, 1) := by decide +kernel
theorem dX6_loose_14 : decode cX6_loose 14 = .ok (.invokevirtual 55, 3) := by decide +kernel
theorem dX6_loose_17 : decode cX6_loose 17 = .ok (.ireturn, 1) := by decide +kernel
theorem dX6_loose_18 : decode cX6_loose 18 = .ok (.iconst 0, 1) := by decide +kernel
theorem dX6_loose_19 : decode cX6_loose 19 = .ok (.istore_n 3, 1) := by decide +kernel
theorem dX6_loose_20 : decode cX6_loose 20 = .ok (.iload_n 3, 1) := by decide +kernel
theorem dX6_loose_21 : decode cX6_loose 21 = .ok (.iload_n 1, 1) := by decide +kernel
theorem dX6_loose_22 : decode cX6_loose 22 = .ok (.if_icmp .ge 55, 3) := by decide +kernel
theorem dX6_loose_25 : decode cX6_loose 25 = .ok (.aload_n 0, 1) := by decide +kernel
theorem dX6_loose_26 : decode cX6_loose 26 = .ok (.getfield 7, 3) := by decide +kernel
theorem dX6_loose_29 : decode cX6_loose 29 = .ok (.bipush 6, 2) := by decide +kernel
theorem dX6_loose_31 : decode cX6_loose 31 = .ok (.iaload, 1) := by decide +kernel
theorem dX6_loose_32 : decode cX6_loose 32 = .ok (.ifCond .le 35, 3) := by decide +kernel
theorem dX6_loose_35 : decode cX6_loose 35 = .ok (.aload_n 0, 1) := by decide +kernel
theorem dX6_loose_36 : decode cX6_loose 36 = .ok (.invokevirtual 172, 3) := by decide +kernel
theorem dX6_loose_39 : decode cX6_loose 39 = .ok (.aload_n 0, 1) := by decide +kernel
theorem dX6_loose_40 : decode cX6_loose 40 = .ok (.getfield 7, 3) := by decide +kernel
theorem dX6_loose_43 : decode cX6_loose 43 = .ok (.bipush 6, 2) := by decide +kernel
theorem dX6_loose_45 : decode cX6_loose 45 = .ok (.iaload, 1) := by decide +kernel
theorem dX6_loose_46 : decode cX6_loose 46 = .ok (.irem, 1) := by decide +kernel
theorem dX6_loose_47 : decode cX6_loose 47 = .ok (.istore 4, 2) := by decide +kernel
theorem dX6_loose_49 : decode cX6_loose 49 = .ok (.aload_n 0, 1) := by decide +kernel
theorem dX6_loose_50 : decode cX6_loose 50 = .ok (.iload 4, 2) := by decide +kernel
theorem dX6_loose_52 : decode cX6_loose 52 = .ok (.iconst 2, 1) := by decide +kernel
theorem dX6_loose_53 : decode cX6_loose 53 = .ok (.aload_n 0, 1) := by decide +kernel
theorem dX6_loose_54 : decode cX6_loose 54 = .ok (.invokevirtual 172, 3) := by decide +kernel
theorem dX6_loose_57 : decode cX6_loose 57 = .ok (.aload_n 0, 1) := by decide +kernel
theorem dX6_loose_58 : decode cX6_loose 58 = .ok (.getfield 7, 3) := by decide +kernel
theorem dX6_loose_61 : decode cX6_loose 61 = .ok (.iconst 1, 1) := by decide +kernel
theorem dX6_loose_62 : decode cX6_loose 62 = .ok (.iaload, 1) := by decide +kernel
theorem dX6_loose_63 : decode cX6_loose 63 = .ok (.irem, 1) := by decide +kernel
theorem dX6_loose_64 : decode cX6_loose 64 = .ok (.invokevirtual 134, 3) := by decide +kernel
theorem dX6_loose_67 : decode cX6_loose 67 = .ok (.aload_n 0, 1) := by decide +kernel
theorem dX6_loose_68 : decode cX6_loose 68 = .ok (.invokevirtual 166, 3) := by decide +kernel
theorem dX6_loose_71 : decode cX6_loose 71 = .ok (.iinc 3 1, 3) := by decide +kernel
theorem dX6_loose_74 : decode cX6_loose 74 = .ok (.goto (-54), 3) := by decide +kernel
theorem dX6_loose_77 : decode cX6_loose 77 = .ok (.aload_n 0, 1) := by decide +kernel
theorem dX6_loose_78 : decode cX6_loose 78 = .ok (.invokevirtual 169, 3) := by decide +kernel
theorem dX6_loose_81 : decode cX6_loose 81 = .ok (.ireturn, 1) := by decide +kernel
set_option maxRecDepth 20000 in
theorem ggX6_seed_X6_change1 : GoodIn wsX6_seed wsX6_change1 := goodIn_r _ [5, 6, 7, 8, 9, 10, 11, 12, 13, 14, 15, 16, 17, 18, 19, 20, 21, 22, 23, 24, 25, 26] (by decide +kernel) (by decide +kernel)
set_option maxRecDepth 20000 in
theorem gX6_seed_X6_change1 : GoodIn wsX6_seed (wsV RX6 145 RX6 yX6_change1 wsX6_change1) := goodIn_app (goodIn_of _ (by decide +kernel)) ggX6_seed_X6_change1
theorem dX6_seed_0 : decode cX6_seed 0 = .ok (.aload_n 0, 1) := by decide +kernel
theorem dX6_seed_1 : decode cX6_seed 1 = .ok (.iconst 3, 1) := by decide +kernel
theorem dX6_seed_2 : decode cX6_seed 2 = .ok (.iload_n 1, 1) := by decide +kernel
theorem dX6_seed_3 : decode cX6_seed 3 = .ok (.invokevirtual 145, 3) := by decide +kernel
theorem dX6_seed_6 : decode cX6_seed 6 = .ok (.ireturn, 1) := by decide +kernel
set_option maxRecDepth 20000 in
theorem ggX6_then_X6_in : GoodIn wsX6_then wsX6_in := goodIn_r _ [4] (by decide +kernel) (by decide +kernel)
set_option maxRecDepth 20000 in
theorem gX6_then_X6_in : GoodIn wsX6_then (va_wsS RX6 51 yX6_in wsX6_in) := goodIn_app (goodIn_of _ (by decide +kernel)) ggX6_then_X6_in
set_option maxRecDepth 20000 in
theorem ggX6_then_X6_isClimber : GoodIn wsX6_then wsX6_isClimber := goodIn_r _ [8, 9, 1, 2, 3, 4, 69, 70, 71, 72, 73, 74, 75, 76, 77, 78, 79, 80, 81, 82, 83, 84, 85, 86, 87, 88] (by decide +kernel) (by decide +kernel)
set_option maxRecDepth 20000 in
theorem gX6_then_X6_isClimber : GoodIn wsX6_then (wsV RX6 154 RX6 yX6_isClimber wsX6_isClimber) := goodIn_app (goodIn_of _ (by decide +kernel)) ggX6_then_X6_isClimber
set_option maxRecDepth 20000 in
theorem ggX6_then_X6_error : GoodIn wsX6_then wsX6_error := goodIn_r _ [13, 14, 15, 69, 70, 71, 72, 73, 74, 75, 76, 77, 78, 79, 80, 81, 82, 83, 84, 85, 86, 87, 88] (by decide +kernel) (by decide +kernel)
set_option maxRecDepth 20000 in
theorem gX6_then_X6_error : GoodIn wsX6_then (wsV RX6 55 RX6 yX6_error wsX6_error) := goodIn_app (goodIn_of _ (by decide +kernel)) ggX6_then_X6_error
set_option maxRecDepth 20000 in
theorem ggX6_then_X6_layDown : GoodIn wsX6_then wsX6_layDown := goodIn_r _ [19, 20, 9, 69, 70, 71, 72, 73, 74, 75, 76, 77, 78, 79, 80, 81, 82, 83, 84, 85, 86, 87, 88] (by decide +kernel) (by decide +kernel)
set_option maxRecDepth 20000 in
theorem gX6_then_X6_layDown : GoodIn wsX6_then (wsV RX6 175 RX6 yX6_layDown wsX6_layDown) := goodIn_app (goodIn_of _ (by decide +kernel)) ggX6_then_X6_layDown
set_option maxRecDepth 20000 in
theorem ggX6_then_X6_minute : GoodIn wsX6_then wsX6_minute := goodIn_r _ [24, 9, 25, 26, 27, 3, 28, 29, 30, 31, 32, 33, 34, 35, 36, 37, 38, 39, 40, 41, 42, 43, 44, 45, 46, 47, 48, 49, 50, 51, 52, 53, 54, 55, 56, 57, 58, 59, 60, 61, 62, 63, 64, 69, 70, 71, 72, 73, 74, 75, 76, 77, 78, 79, 80, 81, 82, 83, 84, 85, 86, 87, 88] (by decide +kernel) (by decide +kernel)
set_option maxRecDepth 20000 in
theorem gX6_then_X6_minute : GoodIn wsX6_then (wsV RX6 166 RX6 yX6_minute wsX6_minute) := goodIn_app (goodIn_of _ (by decide +kernel)) ggX6_then_X6_minute
set_option maxRecDepth 20000 in
theorem ggX6_then_X6_its : GoodIn wsX6_then wsX6_its := goodIn_r _ [36, 9, 69, 70, 71, 72, 73, 74, 75, 76, 77, 78, 79, 80, 81, 82, 83, 84, 85, 86, 87, 88] (by decide +kernel) (by decide +kernel)
set_option maxRecDepth 20000 in
theorem gX6_then_X6_its : GoodIn wsX6_then (wsV RX6 115 RX6 yX6_its wsX6_its) := goodIn_app (goodIn_of _ (by decide +kernel)) ggX6_then_X6_its
set_option maxRecDepth 20000 in
theorem ggX6_then_X6_layBack : GoodIn wsX6_then wsX6_layBack := goodIn_r _ [68, 9, 20, 69, 70, 71, 72, 73, 74, 75, 76, 77, 78, 79, 80, 81, 82, 83, 84, 85, 86, 87, 88] (by decide +kernel) (by decide +kernel)
set_option maxRecDepth 20000 in
theorem gX6_then_X6_layBack : GoodIn wsX6_then (wsV RX6 178 RX6 yX6_layBack wsX6_layBack) := goodIn_app (goodIn_of _ (by decide +kernel)) ggX6_then_X6_layBack
theorem dX6_then_0 : decode cX6_then 0 = .ok (.iload_n 1, 1) := by decide +kernel
theorem dX6_then_1 : decode cX6_then 1 = .ok (.iconst 0, 1) := by decide +kernel
theorem dX6_then_2 : decode cX6_then 2 = .ok (.sipush 200, 3) := by decide +kernel
theorem dX6_then_5 : decode cX6_then 5 = .ok (.invokestatic 51, 3) := by decide +kernel
theorem dX6_then_8 : decode cX6_then 8 = .ok (.ifCond .eq 20, 3) := by decide +kernel
theorem dX6_then_11 : decode cX6_then 11 = .ok (.aload_n 0, 1) := by decide +kernel
theorem dX6_then_12 : decode cX6_then 12 = .ok (.iload_n 2, 1) := by decide +kernel
theorem dX6_then_13 : decode cX6_then 13 = .ok (.invokevirtual 154, 3) := by decide +kernel
theorem dX6_then_16 : decode cX6_then 16 = .ok (.ifCond .eq 12, 3) := by decide +kernel
theorem dX6_then_19 : decode cX6_then 19 = .ok (.iload_n 3, 1) := by decide +kernel
theorem dX6_then_20 : decode cX6_then 20 = .ok (.iconst 0, 1) := by decide +kernel
theorem dX6_then_21 : decode cX6_then 21 = .ok (.iconst 1, 1) := by decide +kernel
theorem dX6_then_22 : decode cX6_then 22 = .ok (.invokestatic 51, 3) := by decide +kernel
theorem dX6_then_25 : decode cX6_then 25 = .ok (.ifCond .ne 9, 3) := by decide +kernel
theorem dX6_then_28 : decode cX6_then 28 = .ok (.aload_n 0, 1) := by decide +kernel
theorem dX6_then_29 : decode cX6_then 29 = .ok (.iconst 1, 1) := by decide +kernel
theorem dX6_then_30 : decode cX6_then 30 = .ok (.invokevirtual 55, 3) := by decide +kernel
theorem dX6_then_33 : decode cX6_then 33 = .ok (.ireturn, 1) := by decide +kernel
theorem dX6_then_34 : decode cX6_then 34 = .ok (.aload_n 0, 1) := by decide +kernel
theorem dX6_then_35 : decode cX6_then 35 = .ok (.invokevirtual 175, 3) := by decide +kernel
theorem dX6_then_38 : decode cX6_then 38 = .ok (.iconst 0, 1) := by decide +kernel
theorem dX6_then_39 : decode cX6_then 39 = .ok (.istore 4, 2) := by decide +kernel
theorem dX6_then_41 : decode cX6_then 41 = .ok (.iload 4, 2) := by decide +kernel
theorem dX6_then_43 : decode cX6_then 43 = .ok (.iload_n 1, 1) := by decide +kernel
theorem dX6_then_44 : decode cX6_then 44 = .ok (.if_icmp .ge 13, 3) := by decide +kernel
theorem dX6_then_47 : decode cX6_then 47 = .ok (.aload_n 0, 1) := by decide +kernel
theorem dX6_then_48 : decode cX6_then 48 = .ok (.invokevirtual 166, 3) := by decide +kernel
theorem dX6_then_51 : decode cX6_then 51 = .ok (.iinc 4 1, 3) := by decide +kernel
theorem dX6_then_54 : decode cX6_then 54 = .ok (.goto (-13), 3) := by decide +kernel
theorem dX6_then_57 : decode cX6_then 57 = .ok (.aload_n 0, 1) := by decide +kernel
theorem dX6_then_58 : decode cX6_then 58 = .ok (.iload_n 2, 1) := by decide +kernel
theorem dX6_then_59 : decode cX6_then 59 = .ok (.iconst 2, 1) := by decide +kernel
theorem dX6_then_60 : decode cX6_then 60 = .ok (.iload_n 3, 1) := by decide +kernel
theorem dX6_then_61 : decode cX6_then 61 = .ok (.iadd, 1) := by decide +kernel
theorem dX6_then_62 : decode cX6_then 62 = .ok (.invokevirtual 115, 3) := by decide +kernel
theorem dX6_then_65 : decode cX6_then 65 = .ok (.istore 4, 2) := by decide +kernel
theorem dX6_then_67 : decode cX6_then 67 = .ok (.aload_n 0, 1) := by decide +kernel
theorem dX6_then_68 : decode cX6_then 68 = .ok (.invokevirtual 178, 3) := by decide +kernel
theorem dX6_then_71 : decode cX6_then 71 = .ok (.iload 4, 2) := by decide +kernel
theorem dX6_then_73 : decode cX6_then 73 = .ok (.ireturn, 1) := by decide +kernel
set_option maxRecDepth 20000 in
theorem ggX6_meets_X6_layDown : GoodIn wsX6_meets wsX6_layDown := goodIn_r _ [5, 6, 7, 56, 57, 58, 59, 60, 61, 62, 63, 64, 65, 66, 67, 68, 69, 70, 71, 72, 73, 74, 75] (by decide +kernel) (by decide +kernel)
set_option maxRecDepth 20000 in
theorem gX6_meets_X6_layDown : GoodIn wsX6_meets (wsV RX6 175 RX6 yX6_layDown wsX6_layDown) := goodIn_app (goodIn_of _ (by decide +kernel)) ggX6_meets_X6_layDown
set_option maxRecDepth 20000 in
theorem ggX6_meets_X6_its : GoodIn wsX6_meets wsX6_its := goodIn_r _ [11, 7, 56, 57, 58, 59, 60, 61, 62, 63, 64, 65, 66, 67, 68, 69, 70, 71, 72, 73, 74, 75] (by decide +kernel) (by decide +kernel)
set_option maxRecDepth 20000 in
theorem gX6_meets_X6_its : GoodIn wsX6_meets (wsV RX6 115 RX6 yX6_its wsX6_its) := goodIn_app (goodIn_of _ (by decide +kernel)) ggX6_meets_X6_its
set_option maxRecDepth 20000 in
theorem ggX6_meets_X6_minute : GoodIn wsX6_meets wsX6_minute := goodIn_r _ [15, 7, 16, 17, 18, 4, 19, 20, 21, 22, 23, 8, 9, 10, 11, 24, 25, 26, 27, 28, 29, 30, 31, 32, 33, 34, 35, 36, 37, 38, 39, 40, 41, 42, 43, 44, 45, 46, 47, 48, 49, 50, 51, 56, 57, 58, 59, 60, 61, 62, 63, 64, 65, 66, 67, 68, 69, 70, 71, 72, 73, 74, 75] (by decide +kernel) (by decide +kernel)
set_option maxRecDepth 20000 in
theorem gX6_meets_X6_minute : GoodIn wsX6_meets (wsV RX6 166 RX6 yX6_minute wsX6_minute) := goodIn_app (goodIn_of _ (by decide +kernel)) ggX6_meets_X6_minute
set_option maxRecDepth 20000 in
theorem ggX6_meets_X6_layBack : GoodIn wsX6_meets wsX6_layBack := goodIn_r _ [55, 7, 6, 56, 57, 58, 59, 60, 61, 62, 63, 64, 65, 66, 67, 68, 69, 70, 71, 72, 73, 74, 75] (by decide +kernel) (by decide +kernel)
set_option maxRecDepth 20000 in
theorem gX6_meets_X6_layBack : GoodIn wsX6_meets (wsV RX6 178 RX6 yX6_layBack wsX6_layBack) := goodIn_app (goodIn_of _ (by decide +kernel)) ggX6_meets_X6_layBack
theorem dX6_meets_0 : decode cX6_meets 0 = .ok (.aload_n 0, 1) := by decide +kernel
theorem dX6_meets_1 : decode cX6_meets 1 = .ok (.invokevirtual 175, 3) := by decide +kernel
theorem dX6_meets_4 : decode cX6_meets 4 = .ok (.iconst 0, 1) := by decide +kernel
theorem dX6_meets_5 : decode cX6_meets 5 = .ok (.istore 4, 2) := by decide +kernel
theorem dX6_meets_7 : decode cX6_meets 7 = .ok (.iload 4, 2) := by decide +kernel
theorem dX6_meets_9 : decode cX6_meets 9 = .ok (.iload_n 3, 1) := by decide +kernel
theorem dX6_meets_10 : decode cX6_meets 10 = .ok (.if_icmp .gt 28, 3) := by decide +kernel
theorem dX6_meets_13 : decode cX6_meets 13 = .ok (.aload_n 0, 1) := by decide +kernel
theorem dX6_meets_14 : decode cX6_meets 14 = .ok (.iload_n 1, 1) := by decide +kernel
theorem dX6_meets_15 : decode cX6_meets 15 = .ok (.iconst 2, 1) := by decide +kernel
theorem dX6_meets_16 : decode cX6_meets 16 = .ok (.invokevirtual 115, 3) := by decide +kernel
theorem dX6_meets_19 : decode cX6_meets 19 = .ok (.aload_n 0, 1) := by decide +kernel
theorem dX6_meets_20 : decode cX6_meets 20 = .ok (.iload_n 2, 1) := by decide +kernel
theorem dX6_meets_21 : decode cX6_meets 21 = .ok (.iconst 2, 1) := by decide +kernel
theorem dX6_meets_22 : decode cX6_meets 22 = .ok (.invokevirtual 115, 3) := by decide +kernel
theorem dX6_meets_25 : decode cX6_meets 25 = .ok (.if_icmp .eq 13, 3) := by decide +kernel
theorem dX6_meets_28 : decode cX6_meets 28 = .ok (.aload_n 0, 1) := by decide +kernel
theorem dX6_meets_29 : decode cX6_meets 29 = .ok (.invokevirtual 166, 3) := by decide +kernel
theorem dX6_meets_32 : decode cX6_meets 32 = .ok (.iinc 4 1, 3) := by decide +kernel
theorem dX6_meets_35 : decode cX6_meets 35 = .ok (.goto (-28), 3) := by decide +kernel
theorem dX6_meets_38 : decode cX6_meets 38 = .ok (.aload_n 0, 1) := by decide +kernel
theorem dX6_meets_39 : decode cX6_meets 39 = .ok (.invokevirtual 178, 3) := by decide +kernel
theorem dX6_meets_42 : decode cX6_meets 42 = .ok (.iload 4, 2) := by decide +kernel
theorem dX6_meets_44 : decode cX6_meets 44 = .ok (.iload_n 3, 1) := by decide +kernel
theorem dX6_meets_45 : decode cX6_meets 45 = .ok (.if_icmp .gt 8, 3) := by decide +kernel
theorem dX6_meets_48 : decode cX6_meets 48 = .ok (.iload 4, 2) := by decide +kernel
theorem dX6_meets_50 : decode cX6_meets 50 = .ok (.goto 4, 3) := by decide +kernel
theorem dX6_meets_53 : decode cX6_meets 53 = .ok (.iconst (-1), 1) := by decide +kernel
theorem dX6_meets_54 : decode cX6_meets 54 = .ok (.ireturn, 1) := by decide +kernel
set_option maxRecDepth 20000 in
theorem ggX6_meet_X6_isClimber : GoodIn wsX6_meet wsX6_isClimber := goodIn_r _ [5, 6, 7, 8, 4, 9, 73, 74, 75, 76, 77, 78, 79, 80, 81, 82, 83, 84, 85, 86, 87, 88, 89, 90, 91, 92] (by decide +kernel) (by decide +kernel)
set_option maxRecDepth 20000 in
theorem gX6_meet_X6_isClimber : GoodIn wsX6_meet (wsV RX6 154 RX6 yX6_isClimber wsX6_isClimber) := goodIn_app (goodIn_of _ (by decide +kernel)) ggX6_meet_X6_isClimber
set_option maxRecDepth 20000 in
theorem ggX6_meet_X6_error : GoodIn wsX6_meet wsX6_error := goodIn_r _ [13, 14, 15, 73, 74, 75, 76, 77, 78, 79, 80, 81, 82, 83, 84, 85, 86, 87, 88, 89, 90, 91, 92] (by decide +kernel) (by decide +kernel)
set_option maxRecDepth 20000 in
theorem gX6_meet_X6_error : GoodIn wsX6_meet (wsV RX6 55 RX6 yX6_error wsX6_error) := goodIn_app (goodIn_of _ (by decide +kernel)) ggX6_meet_X6_error
set_option maxRecDepth 20000 in
theorem ggX6_meet_X6_meets : GoodIn wsX6_meet wsX6_meets := goodIn_r _ [19, 20, 21, 22, 4, 23, 24, 6, 25, 26, 27, 28, 29, 30, 31, 32, 33, 34, 35, 36, 37, 38, 39, 40, 41, 42, 43, 44, 45, 46, 47, 48, 49, 50, 51, 52, 53, 54, 55, 56, 57, 58, 59, 60, 61, 62, 63, 64, 65, 66, 67, 68, 69, 70, 71, 72, 73, 74, 75, 76, 77, 78, 79, 80, 81, 82, 83, 84, 85, 86, 87, 88, 89, 90, 91, 92] (by decide +kernel) (by decide +kernel)
set_option maxRecDepth 20000 in
theorem gX6_meet_X6_meets : GoodIn wsX6_meet (wsV RX6 181 RX6 yX6_meets wsX6_meets) := goodIn_app (goodIn_of _ (by decide +kernel)) ggX6_meet_X6_meets
theorem dX6_meet_0 : decode cX6_meet 0 = .ok (.aload_n 0, 1) := by decide +kernel
theorem dX6_meet_1 : decode cX6_meet 1 = .ok (.iload_n 1, 1) := by decide +kernel
theorem dX6_meet_2 : decode cX6_meet 2 = .ok (.invokevirtual 154, 3) := by decide +kernel
theorem dX6_meet_5 : decode cX6_meet 5 = .ok (.ifCond .eq 16, 3) := by decide +kernel
theorem dX6_meet_8 : decode cX6_meet 8 = .ok (.aload_n 0, 1) := by decide +kernel
theorem dX6_meet_9 : decode cX6_meet 9 = .ok (.iload_n 2, 1) := by decide +kernel
theorem dX6_meet_10 : decode cX6_meet 10 = .ok (.invokevirtual 154, 3) := by decide +kernel
theorem dX6_meet_13 : decode cX6_meet 13 = .ok (.ifCond .eq 8, 3) := by decide +kernel
theorem dX6_meet_16 : decode cX6_meet 16 = .ok (.iload_n 1, 1) := by decide +kernel
theorem dX6_meet_17 : decode cX6_meet 17 = .ok (.iload_n 2, 1) := by decide +kernel
theorem dX6_meet_18 : decode cX6_meet 18 = .ok (.if_icmp .ne 9, 3) := by decide +kernel
theorem dX6_meet_21 : decode cX6_meet 21 = .ok (.aload_n 0, 1) := by decide +kernel
theorem dX6_meet_22 : decode cX6_meet 22 = .ok (.iconst 1, 1) := by decide +kernel
theorem dX6_meet_23 : decode cX6_meet 23 = .ok (.invokevirtual 55, 3) := by decide +kernel
theorem dX6_meet_26 : decode cX6_meet 26 = .ok (.ireturn, 1) := by decide +kernel
theorem dX6_meet_27 : decode cX6_meet 27 = .ok (.aload_n 0, 1) := by decide +kernel
theorem dX6_meet_28 : decode cX6_meet 28 = .ok (.iload_n 1, 1) := by decide +kernel
theorem dX6_meet_29 : decode cX6_meet 29 = .ok (.iload_n 2, 1) := by decide +kernel
theorem dX6_meet_30 : decode cX6_meet 30 = .ok (.sipush 200, 3) := by decide +kernel
theorem dX6_meet_33 : decode cX6_meet 33 = .ok (.invokevirtual 181, 3) := by decide +kernel
theorem dX6_meet_36 : decode cX6_meet 36 = .ok (.istore_n 3, 1) := by decide +kernel
theorem dX6_meet_37 : decode cX6_meet 37 = .ok (.iload_n 3, 1) := by decide +kernel
theorem dX6_meet_38 : decode cX6_meet 38 = .ok (.iconst (-1), 1) := by decide +kernel
theorem dX6_meet_39 : decode cX6_meet 39 = .ok (.if_icmp .ne 11, 3) := by decide +kernel
theorem dX6_meet_42 : decode cX6_meet 42 = .ok (.aload_n 0, 1) := by decide +kernel
theorem dX6_meet_43 : decode cX6_meet 43 = .ok (.iconst 2, 1) := by decide +kernel
theorem dX6_meet_44 : decode cX6_meet 44 = .ok (.invokevirtual 55, 3) := by decide +kernel
theorem dX6_meet_47 : decode cX6_meet 47 = .ok (.goto 4, 3) := by decide +kernel
theorem dX6_meet_50 : decode cX6_meet 50 = .ok (.iload_n 3, 1) := by decide +kernel
theorem dX6_meet_51 : decode cX6_meet 51 = .ok (.ireturn, 1) := by decide +kernel
set_option maxRecDepth 20000 in
theorem ggX6_lap_X6_isClimber : GoodIn wsX6_lap wsX6_isClimber := goodIn_r _ [5, 6, 7, 8, 4, 9, 69, 70, 71, 72, 73, 74, 75, 76, 77, 78, 79, 80, 81, 82, 83, 84, 85, 86, 87, 88] (by decide +kernel) (by decide +kernel)
set_option maxRecDepth 20000 in
theorem gX6_lap_X6_isClimber : GoodIn wsX6_lap (wsV RX6 154 RX6 yX6_isClimber wsX6_isClimber) := goodIn_app (goodIn_of _ (by decide +kernel)) ggX6_lap_X6_isClimber
set_option maxRecDepth 20000 in
theorem ggX6_lap_X6_in : GoodIn wsX6_lap wsX6_in := goodIn_r _ [9] (by decide +kernel) (by decide +kernel)
set_option maxRecDepth 20000 in
theorem gX6_lap_X6_in : GoodIn wsX6_lap (va_wsS RX6 51 yX6_in wsX6_in) := goodIn_app (goodIn_of _ (by decide +kernel)) ggX6_lap_X6_in
set_option maxRecDepth 20000 in
theorem ggX6_lap_X6_error : GoodIn wsX6_lap wsX6_error := goodIn_r _ [13, 14, 15, 69, 70, 71, 72, 73, 74, 75, 76, 77, 78, 79, 80, 81, 82, 83, 84, 85, 86, 87, 88] (by decide +kernel) (by decide +kernel)
set_option maxRecDepth 20000 in
theorem gX6_lap_X6_error : GoodIn wsX6_lap (wsV RX6 55 RX6 yX6_error wsX6_error) := goodIn_app (goodIn_of _ (by decide +kernel)) ggX6_lap_X6_error
set_option maxRecDepth 20000 in
theorem ggX6_lap_X6_its : GoodIn wsX6_lap wsX6_its := goodIn_r _ [19, 6, 69, 70, 71, 72, 73, 74, 75, 76, 77, 78, 79, 80, 81, 82, 83, 84, 85, 86, 87, 88] (by decide +kernel) (by decide +kernel)
set_option maxRecDepth 20000 in
theorem gX6_lap_X6_its : GoodIn wsX6_lap (wsV RX6 115 RX6 yX6_its wsX6_its) := goodIn_app (goodIn_of _ (by decide +kernel)) ggX6_lap_X6_its
set_option maxRecDepth 20000 in
theorem ggX6_lap_X6_layDown : GoodIn wsX6_lap wsX6_layDown := goodIn_r _ [23, 24, 6, 69, 70, 71, 72, 73, 74, 75, 76, 77, 78, 79, 80, 81, 82, 83, 84, 85, 86, 87, 88] (by decide +kernel) (by decide +kernel)
set_option maxRecDepth 20000 in
theorem gX6_lap_X6_layDown : GoodIn wsX6_lap (wsV RX6 175 RX6 yX6_layDown wsX6_layDown) := goodIn_app (goodIn_of _ (by decide +kernel)) ggX6_lap_X6_layDown
set_option maxRecDepth 20000 in
theorem ggX6_lap_X6_minute : GoodIn wsX6_lap wsX6_minute := goodIn_r _ [28, 6, 29, 30, 31, 4, 32, 33, 34, 35, 36, 16, 17, 18, 19, 37, 38, 39, 40, 41, 42, 43, 44, 45, 46, 47, 48, 49, 50, 51, 52, 53, 54, 55, 56, 57, 58, 59, 60, 61, 62, 63, 64, 69, 70, 71, 72, 73, 74, 75, 76, 77, 78, 79, 80, 81, 82, 83, 84, 85, 86, 87, 88] (by decide +kernel) (by decide +kernel)
set_option maxRecDepth 20000 in
theorem gX6_lap_X6_minute : GoodIn wsX6_lap (wsV RX6 166 RX6 yX6_minute wsX6_minute) := goodIn_app (goodIn_of _ (by decide +kernel)) ggX6_lap_X6_minute
set_option maxRecDepth 20000 in
theorem ggX6_lap_X6_layBack : GoodIn wsX6_lap wsX6_layBack := goodIn_r _ [68, 6, 24, 69, 70, 71, 72, 73, 74, 75, 76, 77, 78, 79, 80, 81, 82, 83, 84, 85, 86, 87, 88] (by decide +kernel) (by decide +kernel)
set_option maxRecDepth 20000 in
theorem gX6_lap_X6_layBack : GoodIn wsX6_lap (wsV RX6 178 RX6 yX6_layBack wsX6_layBack) := goodIn_app (goodIn_of _ (by decide +kernel)) ggX6_lap_X6_layBack
theorem dX6_lap_0 : decode cX6_lap 0 = .ok (.aload_n 0, 1) := by decide +kernel
theorem dX6_lap_1 : decode cX6_lap 1 = .ok (.iload_n 1, 1) := by decide +kernel
theorem dX6_lap_2 : decode cX6_lap 2 = .ok (.invokevirtual 154, 3) := by decide +kernel
theorem dX6_lap_5 : decode cX6_lap 5 = .ok (.ifCond .eq 12, 3) := by decide +kernel
theorem dX6_lap_8 : decode cX6_lap 8 = .ok (.iload_n 2, 1) := by decide +kernel
theorem dX6_lap_9 : decode cX6_lap 9 = .ok (.iconst 0, 1) := by decide +kernel
theorem dX6_lap_10 : decode cX6_lap 10 = .ok (.iconst 1, 1) := by decide +kernel
theorem dX6_lap_11 : decode cX6_lap 11 = .ok (.invokestatic 51, 3) := by decide +kernel
theorem dX6_lap_14 : decode cX6_lap 14 = .ok (.ifCond .ne 9, 3) := by decide +kernel
theorem dX6_lap_17 : decode cX6_lap 17 = .ok (.aload_n 0, 1) := by decide +kernel
theorem dX6_lap_18 : decode cX6_lap 18 = .ok (.iconst 1, 1) := by decide +kernel
theorem dX6_lap_19 : decode cX6_lap 19 = .ok (.invokevirtual 55, 3) := by decide +kernel
theorem dX6_lap_22 : decode cX6_lap 22 = .ok (.ireturn, 1) := by decide +kernel
theorem dX6_lap_23 : decode cX6_lap 23 = .ok (.aload_n 0, 1) := by decide +kernel
theorem dX6_lap_24 : decode cX6_lap 24 = .ok (.iload_n 1, 1) := by decide +kernel
theorem dX6_lap_25 : decode cX6_lap 25 = .ok (.iconst 2, 1) := by decide +kernel
theorem dX6_lap_26 : decode cX6_lap 26 = .ok (.invokevirtual 115, 3) := by decide +kernel
theorem dX6_lap_29 : decode cX6_lap 29 = .ok (.istore_n 3, 1) := by decide +kernel
theorem dX6_lap_30 : decode cX6_lap 30 = .ok (.aload_n 0, 1) := by decide +kernel
theorem dX6_lap_31 : decode cX6_lap 31 = .ok (.iload_n 1, 1) := by decide +kernel
theorem dX6_lap_32 : decode cX6_lap 32 = .ok (.iconst 3, 1) := by decide +kernel
theorem dX6_lap_33 : decode cX6_lap 33 = .ok (.invokevirtual 115, 3) := by decide +kernel
theorem dX6_lap_36 : decode cX6_lap 36 = .ok (.istore 4, 2) := by decide +kernel
theorem dX6_lap_38 : decode cX6_lap 38 = .ok (.aload_n 0, 1) := by decide +kernel
theorem dX6_lap_39 : decode cX6_lap 39 = .ok (.invokevirtual 175, 3) := by decide +kernel
theorem dX6_lap_42 : decode cX6_lap 42 = .ok (.aload_n 0, 1) := by decide +kernel
theorem dX6_lap_43 : decode cX6_lap 43 = .ok (.invokevirtual 166, 3) := by decide +kernel
theorem dX6_lap_46 : decode cX6_lap 46 = .ok (.iconst 1, 1) := by decide +kernel
theorem dX6_lap_47 : decode cX6_lap 47 = .ok (.istore 5, 2) := by decide +kernel
theorem dX6_lap_49 : decode cX6_lap 49 = .ok (.iload 5, 2) := by decide +kernel
theorem dX6_lap_51 : decode cX6_lap 51 = .ok (.sipush 200, 3) := by decide +kernel
theorem dX6_lap_54 : decode cX6_lap 54 = .ok (.if_icmp .ge 23, 3) := by decide +kernel
theorem dX6_lap_57 : decode cX6_lap 57 = .ok (.aload_n 0, 1) := by decide +kernel
theorem dX6_lap_58 : decode cX6_lap 58 = .ok (.iload_n 1, 1) := by decide +kernel
theorem dX6_lap_59 : decode cX6_lap 59 = .ok (.iconst 2, 1) := by decide +kernel
theorem dX6_lap_60 : decode cX6_lap 60 = .ok (.invokevirtual 115, 3) := by decide +kernel
theorem dX6_lap_63 : decode cX6_lap 63 = .ok (.iload_n 3, 1) := by decide +kernel
theorem dX6_lap_64 : decode cX6_lap 64 = .ok (.if_icmp .eq 13, 3) := by decide +kernel
theorem dX6_lap_67 : decode cX6_lap 67 = .ok (.aload_n 0, 1) := by decide +kernel
theorem dX6_lap_68 : decode cX6_lap 68 = .ok (.invokevirtual 166, 3) := by decide +kernel
theorem dX6_lap_71 : decode cX6_lap 71 = .ok (.iinc 5 1, 3) := by decide +kernel
theorem dX6_lap_74 : decode cX6_lap 74 = .ok (.goto (-25), 3) := by decide +kernel
theorem dX6_lap_77 : decode cX6_lap 77 = .ok (.aload_n 0, 1) := by decide +kernel
theorem dX6_lap_78 : decode cX6_lap 78 = .ok (.iload_n 1, 1) := by decide +kernel
theorem dX6_lap_79 : decode cX6_lap 79 = .ok (.iconst 2, 1) := by decide +kernel
theorem dX6_lap_80 : decode cX6_lap 80 = .ok (.invokevirtual 115, 3) := by decide +kernel
theorem dX6_lap_83 : decode cX6_lap 83 = .ok (.iload_n 3, 1) := by decide +kernel
theorem dX6_lap_84 : decode cX6_lap 84 = .ok (.if_icmp .ne 7, 3) := by decide +kernel
theorem dX6_lap_87 : decode cX6_lap 87 = .ok (.iconst 1, 1) := by decide +kernel
theorem dX6_lap_88 : decode cX6_lap 88 = .ok (.goto 4, 3) := by decide +kernel
theorem dX6_lap_91 : decode cX6_lap 91 = .ok (.iconst 0, 1) := by decide +kernel
theorem dX6_lap_92 : decode cX6_lap 92 = .ok (.istore 6, 2) := by decide +kernel
theorem dX6_lap_94 : decode cX6_lap 94 = .ok (.aload_n 0, 1) := by decide +kernel
theorem dX6_lap_95 : decode cX6_lap 95 = .ok (.iload_n 1, 1) := by decide +kernel
theorem dX6_lap_96 : decode cX6_lap 96 = .ok (.iconst 3, 1) := by decide +kernel
theorem dX6_lap_97 : decode cX6_lap 97 = .ok (.invokevirtual 115, 3) := by decide +kernel
theorem dX6_lap_100 : decode cX6_lap 100 = .ok (.iload 4, 2) := by decide +kernel
theorem dX6_lap_102 : decode cX6_lap 102 = .ok (.isub, 1) := by decide +kernel
theorem dX6_lap_103 : decode cX6_lap 103 = .ok (.istore 7, 2) := by decide +kernel
theorem dX6_lap_105 : decode cX6_lap 105 = .ok (.aload_n 0, 1) := by decide +kernel
theorem dX6_lap_106 : decode cX6_lap 106 = .ok (.invokevirtual 178, 3) := by decide +kernel
theorem dX6_lap_109 : decode cX6_lap 109 = .ok (.iload 6, 2) := by decide +kernel
theorem dX6_lap_111 : decode cX6_lap 111 = .ok (.ifCond .ne 11, 3) := by decide +kernel
theorem dX6_lap_114 : decode cX6_lap 114 = .ok (.aload_n 0, 1) := by decide +kernel
theorem dX6_lap_115 : decode cX6_lap 115 = .ok (.iconst 2, 1) := by decide +kernel
theorem dX6_lap_116 : decode cX6_lap 116 = .ok (.invokevirtual 55, 3) := by decide +kernel
theorem dX6_lap_119 : decode cX6_lap 119 = .ok (.goto 14, 3) := by decide +kernel
theorem dX6_lap_122 : decode cX6_lap 122 = .ok (.iload_n 2, 1) := by decide +kernel
theorem dX6_lap_123 : decode cX6_lap 123 = .ok (.ifCond .ne 8, 3) := by decide +kernel
theorem dX6_lap_126 : decode cX6_lap 126 = .ok (.iload 5, 2) := by decide +kernel
theorem dX6_lap_128 : decode cX6_lap 128 = .ok (.goto 5, 3) := by decide +kernel
theorem dX6_lap_131 : decode cX6_lap 131 = .ok (.iload 7, 2) := by decide +kernel
theorem dX6_lap_133 : decode cX6_lap 133 = .ok (.ireturn, 1) := by decide +kernel
set_option maxRecDepth 20000 in
theorem ggX6_areTogether_X6_its : GoodIn wsX6_areTogether wsX6_its := goodIn_r _ [6, 1, 7, 8, 9, 10, 11, 12, 13, 14, 15, 16, 17, 18, 19, 20, 21, 22, 23, 24, 25, 26] (by decide +kernel) (by decide +kernel)
set_option maxRecDepth 20000 in
theorem gX6_areTogether_X6_its : GoodIn wsX6_areTogether (wsV RX6 115 RX6 yX6_its wsX6_its) := goodIn_app (goodIn_of _ (by decide +kernel)) ggX6_areTogether_X6_its
theorem dX6_areTogether_0 : decode cX6_areTogether 0 = .ok (.iconst 1, 1) := by decide +kernel
theorem dX6_areTogether_1 : decode cX6_areTogether 1 = .ok (.istore_n 1, 1) := by decide +kernel
theorem dX6_areTogether_2 : decode cX6_areTogether 2 = .ok (.iconst 1, 1) := by decide +kernel
theorem dX6_areTogether_3 : decode cX6_areTogether 3 = .ok (.istore_n 2, 1) := by decide +kernel
theorem dX6_areTogether_4 : decode cX6_areTogether 4 = .ok (.iload_n 2, 1) := by decide +kernel
theorem dX6_areTogether_5 : decode cX6_areTogether 5 = .ok (.aload_n 0, 1) := by decide +kernel
theorem dX6_areTogether_6 : decode cX6_areTogether 6 = .ok (.getfield 7, 3) := by decide +kernel
theorem dX6_areTogether_9 : decode cX6_areTogether 9 = .ok (.bipush 6, 2) := by decide +kernel
theorem dX6_areTogether_11 : decode cX6_areTogether 11 = .ok (.iaload, 1) := by decide +kernel
theorem dX6_areTogether_12 : decode cX6_areTogether 12 = .ok (.if_icmp .ge 34, 3) := by decide +kernel
theorem dX6_areTogether_15 : decode cX6_areTogether 15 = .ok (.iload_n 1, 1) := by decide +kernel
theorem dX6_areTogether_16 : decode cX6_areTogether 16 = .ok (.ifCond .eq 22, 3) := by decide +kernel
theorem dX6_areTogether_19 : decode cX6_areTogether 19 = .ok (.aload_n 0, 1) := by decide +kernel
theorem dX6_areTogether_20 : decode cX6_areTogether 20 = .ok (.iload_n 2, 1) := by decide +kernel
theorem dX6_areTogether_21 : decode cX6_areTogether 21 = .ok (.iconst 2, 1) := by decide +kernel
theorem dX6_areTogether_22 : decode cX6_areTogether 22 = .ok (.invokevirtual 115, 3) := by decide +kernel
theorem dX6_areTogether_25 : decode cX6_areTogether 25 = .ok (.aload_n 0, 1) := by decide +kernel
theorem dX6_areTogether_26 : decode cX6_areTogether 26 = .ok (.iconst 0, 1) := by decide +kernel
theorem dX6_areTogether_27 : decode cX6_areTogether 27 = .ok (.iconst 2, 1) := by decide +kernel
theorem dX6_areTogether_28 : decode cX6_areTogether 28 = .ok (.invokevirtual 115, 3) := by decide +kernel
theorem dX6_areTogether_31 : decode cX6_areTogether 31 = .ok (.if_icmp .ne 7, 3) := by decide +kernel
theorem dX6_areTogether_34 : decode cX6_areTogether 34 = .ok (.iconst 1, 1) := by decide +kernel
theorem dX6_areTogether_35 : decode cX6_areTogether 35 = .ok (.goto 4, 3) := by decide +kernel
theorem dX6_areTogether_38 : decode cX6_areTogether 38 = .ok (.iconst 0, 1) := by decide +kernel
theorem dX6_areTogether_39 : decode cX6_areTogether 39 = .ok (.istore_n 1, 1) := by decide +kernel
theorem dX6_areTogether_40 : decode cX6_areTogether 40 = .ok (.iinc 2 1, 3) := by decide +kernel
theorem dX6_areTogether_43 : decode cX6_areTogether 43 = .ok (.goto (-39), 3) := by decide +kernel
theorem dX6_areTogether_46 : decode cX6_areTogether 46 = .ok (.iload_n 1, 1) := by decide +kernel
theorem dX6_areTogether_47 : decode cX6_areTogether 47 = .ok (.ireturn, 1) := by decide +kernel
set_option maxRecDepth 20000 in
theorem ggX6_doDispute_X6_its : GoodIn wsX6_doDispute wsX6_its := goodIn_r _ [6, 1, 7, 8, 9, 10, 11, 12, 13, 14, 15, 16, 17, 18, 19, 20, 21, 22, 23, 24, 25, 26] (by decide +kernel) (by decide +kernel)
set_option maxRecDepth 20000 in
theorem gX6_doDispute_X6_its : GoodIn wsX6_doDispute (wsV RX6 115 RX6 yX6_its wsX6_its) := goodIn_app (goodIn_of _ (by decide +kernel)) ggX6_doDispute_X6_its
theorem dX6_doDispute_0 : decode cX6_doDispute 0 = .ok (.iconst 0, 1) := by decide +kernel
theorem dX6_doDispute_1 : decode cX6_doDispute 1 = .ok (.istore_n 1, 1) := by decide +kernel
theorem dX6_doDispute_2 : decode cX6_doDispute 2 = .ok (.iload_n 1, 1) := by decide +kernel
theorem dX6_doDispute_3 : decode cX6_doDispute 3 = .ok (.aload_n 0, 1) := by decide +kernel
theorem dX6_doDispute_4 : decode cX6_doDispute 4 = .ok (.getfield 7, 3) := by decide +kernel
theorem dX6_doDispute_7 : decode cX6_doDispute 7 = .ok (.bipush 6, 2) := by decide +kernel
theorem dX6_doDispute_9 : decode cX6_doDispute 9 = .ok (.iaload, 1) := by decide +kernel
theorem dX6_doDispute_10 : decode cX6_doDispute 10 = .ok (.if_icmp .ge 54, 3) := by decide +kernel
theorem dX6_doDispute_13 : decode cX6_doDispute 13 = .ok (.iconst 0, 1) := by decide +kernel
theorem dX6_doDispute_14 : decode cX6_doDispute 14 = .ok (.istore_n 2, 1) := by decide +kernel
theorem dX6_doDispute_15 : decode cX6_doDispute 15 = .ok (.iload_n 2, 1) := by decide +kernel
theorem dX6_doDispute_16 : decode cX6_doDispute 16 = .ok (.iload_n 1, 1) := by decide +kernel
theorem dX6_doDispute_17 : decode cX6_doDispute 17 = .ok (.if_icmp .ge 41, 3) := by decide +kernel
theorem dX6_doDispute_20 : decode cX6_doDispute 20 = .ok (.aload_n 0, 1) := by decide +kernel
theorem dX6_doDispute_21 : decode cX6_doDispute 21 = .ok (.iload_n 1, 1) := by decide +kernel
theorem dX6_doDispute_22 : decode cX6_doDispute 22 = .ok (.iconst 2, 1) := by decide +kernel
theorem dX6_doDispute_23 : decode cX6_doDispute 23 = .ok (.invokevirtual 115, 3) := by decide +kernel
theorem dX6_doDispute_26 : decode cX6_doDispute 26 = .ok (.aload_n 0, 1) := by decide +kernel
theorem dX6_doDispute_27 : decode cX6_doDispute 27 = .ok (.iload_n 2, 1) := by decide +kernel
theorem dX6_doDispute_28 : decode cX6_doDispute 28 = .ok (.iconst 2, 1) := by decide +kernel
theorem dX6_doDispute_29 : decode cX6_doDispute 29 = .ok (.invokevirtual 115, 3) := by decide +kernel
theorem dX6_doDispute_32 : decode cX6_doDispute 32 = .ok (.if_icmp .ne 20, 3) := by decide +kernel
theorem dX6_doDispute_35 : decode cX6_doDispute 35 = .ok (.aload_n 0, 1) := by decide +kernel
theorem dX6_doDispute_36 : decode cX6_doDispute 36 = .ok (.iload_n 1, 1) := by decide +kernel
theorem dX6_doDispute_37 : decode cX6_doDispute 37 = .ok (.iconst 3, 1) := by decide +kernel
theorem dX6_doDispute_38 : decode cX6_doDispute 38 = .ok (.invokevirtual 115, 3) := by decide +kernel
theorem dX6_doDispute_41 : decode cX6_doDispute 41 = .ok (.aload_n 0, 1) := by decide +kernel
theorem dX6_doDispute_42 : decode cX6_doDispute 42 = .ok (.iload_n 2, 1) := by decide +kernel
theorem dX6_doDispute_43 : decode cX6_doDispute 43 = .ok (.iconst 3, 1) := by decide +kernel
theorem dX6_doDispute_44 : decode cX6_doDispute 44 = .ok (.invokevirtual 115, 3) := by decide +kernel
theorem dX6_doDispute_47 : decode cX6_doDispute 47 = .ok (.if_icmp .eq 5, 3) := by decide +kernel
theorem dX6_doDispute_50 : decode cX6_doDispute 50 = .ok (.iconst 1, 1) := by decide +kernel
theorem dX6_doDispute_51 : decode cX6_doDispute 51 = .ok (.ireturn, 1) := by decide +kernel
theorem dX6_doDispute_52 : decode cX6_doDispute 52 = .ok (.iinc 2 1, 3) := by decide +kernel
theorem dX6_doDispute_55 : decode cX6_doDispute 55 = .ok (.goto (-40), 3) := by decide +kernel
theorem dX6_doDispute_58 : decode cX6_doDispute 58 = .ok (.iinc 1 1, 3) := by decide +kernel
theorem dX6_doDispute_61 : decode cX6_doDispute 61 = .ok (.goto (-59), 3) := by decide +kernel
theorem dX6_doDispute_64 : decode cX6_doDispute 64 = .ok (.iconst 0, 1) := by decide +kernel
theorem dX6_doDispute_65 : decode cX6_doDispute 65 = .ok (.ireturn, 1) := by decide +kernel
set_option maxRecDepth 20000 in
theorem ggX6_together_X6_error : GoodIn wsX6_together wsX6_error := goodIn_r _ [6, 7, 8, 66, 67, 68, 69, 70, 71, 72, 73, 74, 75, 76, 77, 78, 79, 80, 81, 82, 83, 84, 85] (by decide +kernel) (by decide +kernel)
set_option maxRecDepth 20000 in
theorem gX6_together_X6_error : GoodIn wsX6_together (wsV RX6 55 RX6 yX6_error wsX6_error) := goodIn_app (goodIn_of _ (by decide +kernel)) ggX6_together_X6_error
set_option maxRecDepth 20000 in
theorem ggX6_together_X6_layDown : GoodIn wsX6_together wsX6_layDown := goodIn_r _ [12, 13, 1, 66, 67, 68, 69, 70, 71, 72, 73, 74, 75, 76, 77, 78, 79, 80, 81, 82, 83, 84, 85] (by decide +kernel) (by decide +kernel)
set_option maxRecDepth 20000 in
theorem gX6_together_X6_layDown : GoodIn wsX6_together (wsV RX6 175 RX6 yX6_layDown wsX6_layDown) := goodIn_app (goodIn_of _ (by decide +kernel)) ggX6_together_X6_layDown
set_option maxRecDepth 20000 in
theorem ggX6_together_X6_areTogether : GoodIn wsX6_together wsX6_areTogether := goodIn_r _ [17, 1, 18, 19, 20, 5, 21, 66, 67, 68, 69, 70, 71, 72, 73, 74, 75, 76, 77, 78, 79, 80, 81, 82, 83, 84, 85] (by decide +kernel) (by decide +kernel)
set_option maxRecDepth 20000 in
theorem gX6_together_X6_areTogether : GoodIn wsX6_together (wsV RX6 184 RX6 yX6_areTogether wsX6_areTogether) := goodIn_app (goodIn_of _ (by decide +kernel)) ggX6_together_X6_areTogether
set_option maxRecDepth 20000 in
theorem ggX6_together_X6_minute : GoodIn wsX6_together wsX6_minute := goodIn_r _ [25, 1, 26, 27, 28, 5, 29, 30, 31, 32, 33, 18, 19, 20, 21, 34, 35, 36, 37, 38, 39, 40, 41, 42, 43, 44, 45, 46, 47, 48, 49, 50, 51, 52, 53, 54, 55, 56, 57, 58, 59, 60, 61, 66, 67, 68, 69, 70, 71, 72, 73, 74, 75, 76, 77, 78, 79, 80, 81, 82, 83, 84, 85] (by decide +kernel) (by decide +kernel)
set_option maxRecDepth 20000 in
theorem gX6_together_X6_minute : GoodIn wsX6_together (wsV RX6 166 RX6 yX6_minute wsX6_minute) := goodIn_app (goodIn_of _ (by decide +kernel)) ggX6_together_X6_minute
set_option maxRecDepth 20000 in
theorem ggX6_together_X6_layBack : GoodIn wsX6_together wsX6_layBack := goodIn_r _ [65, 1, 13, 66, 67, 68, 69, 70, 71, 72, 73, 74, 75, 76, 77, 78, 79, 80, 81, 82, 83, 84, 85] (by decide +kernel) (by decide +kernel)
set_option maxRecDepth 20000 in
theorem gX6_together_X6_layBack : GoodIn wsX6_together (wsV RX6 178 RX6 yX6_layBack wsX6_layBack) := goodIn_app (goodIn_of _ (by decide +kernel)) ggX6_together_X6_layBack
theorem dX6_together_0 : decode cX6_together 0 = .ok (.aload_n 0, 1) := by decide +kernel
theorem dX6_together_1 : decode cX6_together 1 = .ok (.getfield 7, 3) := by decide +kernel
theorem dX6_together_4 : decode cX6_together 4 = .ok (.bipush 6, 2) := by decide +kernel
theorem dX6_together_6 : decode cX6_together 6 = .ok (.iaload, 1) := by decide +kernel
theorem dX6_together_7 : decode cX6_together 7 = .ok (.ifCond .ne 9, 3) := by decide +kernel
theorem dX6_together_10 : decode cX6_together 10 = .ok (.aload_n 0, 1) := by decide +kernel
theorem dX6_together_11 : decode cX6_together 11 = .ok (.iconst 3, 1) := by decide +kernel
theorem dX6_together_12 : decode cX6_together 12 = .ok (.invokevirtual 55, 3) := by decide +kernel
theorem dX6_together_15 : decode cX6_together 15 = .ok (.ireturn, 1) := by decide +kernel
theorem dX6_together_16 : decode cX6_together 16 = .ok (.aload_n 0, 1) := by decide +kernel
theorem dX6_together_17 : decode cX6_together 17 = .ok (.invokevirtual 175, 3) := by decide +kernel
theorem dX6_together_20 : decode cX6_together 20 = .ok (.iconst 0, 1) := by decide +kernel
theorem dX6_together_21 : decode cX6_together 21 = .ok (.istore_n 1, 1) := by decide +kernel
theorem dX6_together_22 : decode cX6_together 22 = .ok (.iload_n 1, 1) := by decide +kernel
theorem dX6_together_23 : decode cX6_together 23 = .ok (.sipush 500, 3) := by decide +kernel
theorem dX6_together_26 : decode cX6_together 26 = .ok (.if_icmp .gt 20, 3) := by decide +kernel
theorem dX6_together_29 : decode cX6_together 29 = .ok (.aload_n 0, 1) := by decide +kernel
theorem dX6_together_30 : decode cX6_together 30 = .ok (.invokevirtual 184, 3) := by decide +kernel
theorem dX6_together_33 : decode cX6_together 33 = .ok (.ifCond .ne 13, 3) := by decide +kernel
theorem dX6_together_36 : decode cX6_together 36 = .ok (.aload_n 0, 1) := by decide +kernel
theorem dX6_together_37 : decode cX6_together 37 = .ok (.invokevirtual 166, 3) := by decide +kernel
theorem dX6_together_40 : decode cX6_together 40 = .ok (.iinc 1 1, 3) := by decide +kernel
theorem dX6_together_43 : decode cX6_together 43 = .ok (.goto (-21), 3) := by decide +kernel
theorem dX6_together_46 : decode cX6_together 46 = .ok (.aload_n 0, 1) := by decide +kernel
theorem dX6_together_47 : decode cX6_together 47 = .ok (.invokevirtual 178, 3) := by decide +kernel
theorem dX6_together_50 : decode cX6_together 50 = .ok (.iload_n 1, 1) := by decide +kernel
theorem dX6_together_51 : decode cX6_together 51 = .ok (.sipush 500, 3) := by decide +kernel
theorem dX6_together_54 : decode cX6_together 54 = .ok (.if_icmp .gt 7, 3) := by decide +kernel
theorem dX6_together_57 : decode cX6_together 57 = .ok (.iload_n 1, 1) := by decide +kernel
theorem dX6_together_58 : decode cX6_together 58 = .ok (.goto 8, 3) := by decide +kernel
theorem dX6_together_61 : decode cX6_together 61 = .ok (.aload_n 0, 1) := by decide +kernel
theorem dX6_together_62 : decode cX6_together 62 = .ok (.iconst 2, 1) := by decide +kernel
theorem dX6_together_63 : decode cX6_together 63 = .ok (.invokevirtual 55, 3) := by decide +kernel
theorem dX6_together_66 : decode cX6_together 66 = .ok (.ireturn, 1) := by decide +kernel
set_option maxRecDepth 20000 in
theorem ggX6_dispute_X6_layDown : GoodIn wsX6_dispute wsX6_layDown := goodIn_r _ [5, 6, 7, 66, 67, 68, 69, 70, 71, 72, 73, 74, 75, 76, 77, 78, 79, 80, 81, 82, 83, 84, 85] (by decide +kernel) (by decide +kernel)
set_option maxRecDepth 20000 in
theorem gX6_dispute_X6_layDown : GoodIn wsX6_dispute (wsV RX6 175 RX6 yX6_layDown wsX6_layDown) := goodIn_app (goodIn_of _ (by decide +kernel)) ggX6_dispute_X6_layDown
set_option maxRecDepth 20000 in
theorem ggX6_dispute_X6_doDispute : GoodIn wsX6_dispute wsX6_doDispute := goodIn_r _ [11, 7, 12, 13, 14, 4, 15, 66, 67, 68, 69, 70, 71, 72, 73, 74, 75, 76, 77, 78, 79, 80, 81, 82, 83, 84, 85] (by decide +kernel) (by decide +kernel)
set_option maxRecDepth 20000 in
theorem gX6_dispute_X6_doDispute : GoodIn wsX6_dispute (wsV RX6 187 RX6 yX6_doDispute wsX6_doDispute) := goodIn_app (goodIn_of _ (by decide +kernel)) ggX6_dispute_X6_doDispute
set_option maxRecDepth 20000 in
theorem ggX6_dispute_X6_minute : GoodIn wsX6_dispute wsX6_minute := goodIn_r _ [19, 7, 20, 21, 22, 4, 23, 24, 25, 26, 27, 12, 13, 14, 15, 28, 29, 30, 31, 32, 33, 34, 35, 36, 37, 38, 39, 40, 41, 42, 43, 44, 45, 46, 47, 48, 49, 50, 51, 52, 53, 54, 55, 66, 67, 68, 69, 70, 71, 72, 73, 74, 75, 76, 77, 78, 79, 80, 81, 82, 83, 84, 85] (by decide +kernel) (by decide +kernel)
set_option maxRecDepth 20000 in
theorem gX6_dispute_X6_minute : GoodIn wsX6_dispute (wsV RX6 166 RX6 yX6_minute wsX6_minute) := goodIn_app (goodIn_of _ (by decide +kernel)) ggX6_dispute_X6_minute
set_option maxRecDepth 20000 in
theorem ggX6_dispute_X6_layBack : GoodIn wsX6_dispute wsX6_layBack := goodIn_r _ [59, 7, 6, 66, 67, 68, 69, 70, 71, 72, 73, 74, 75, 76, 77, 78, 79, 80, 81, 82, 83, 84, 85] (by decide +kernel) (by decide +kernel)
set_option maxRecDepth 20000 in
theorem gX6_dispute_X6_layBack : GoodIn wsX6_dispute (wsV RX6 178 RX6 yX6_layBack wsX6_layBack) := goodIn_app (goodIn_of _ (by decide +kernel)) ggX6_dispute_X6_layBack
set_option maxRecDepth 20000 in
theorem ggX6_dispute_X6_error : GoodIn wsX6_dispute wsX6_error := goodIn_r _ [63, 64, 65, 66, 67, 68, 69, 70, 71, 72, 73, 74, 75, 76, 77, 78, 79, 80, 81, 82, 83, 84, 85] (by decide +kernel) (by decide +kernel)
set_option maxRecDepth 20000 in
theorem gX6_dispute_X6_error : GoodIn wsX6_dispute (wsV RX6 55 RX6 yX6_error wsX6_error) := goodIn_app (goodIn_of _ (by decide +kernel)) ggX6_dispute_X6_error
theorem dX6_dispute_0 : decode cX6_dispute 0 = .ok (.aload_n 0, 1) := by decide +kernel
theorem dX6_dispute_1 : decode cX6_dispute 1 = .ok (.invokevirtual 175, 3) := by decide +kernel
theorem dX6_dispute_4 : decode cX6_dispute 4 = .ok (.iconst 0, 1) := by decide +kernel
theorem dX6_dispute_5 : decode cX6_dispute 5 = .ok (.istore_n 1, 1) := by decide +kernel
theorem dX6_dispute_6 : decode cX6_dispute 6 = .ok (.iload_n 1, 1) := by decide +kernel
theorem dX6_dispute_7 : decode cX6_dispute 7 = .ok (.sipush 200, 3) := by decide +kernel
theorem dX6_dispute_10 : decode cX6_dispute 10 = .ok (.if_icmp .gt 20, 3) := by decide +kernel
theorem dX6_dispute_13 : decode cX6_dispute 13 = .ok (.aload_n 0, 1) := by decide +kernel
theorem dX6_dispute_14 : decode cX6_dispute 14 = .ok (.invokevirtual 187, 3) := by decide +kernel
theorem dX6_dispute_17 : decode cX6_dispute 17 = .ok (.ifCond .ne 13, 3) := by decide +kernel
theorem dX6_dispute_20 : decode cX6_dispute 20 = .ok (.aload_n 0, 1) := by decide +kernel
theorem dX6_dispute_21 : decode cX6_dispute 21 = .ok (.invokevirtual 166, 3) := by decide +kernel
theorem dX6_dispute_24 : decode cX6_dispute 24 = .ok (.iinc 1 1, 3) := by decide +kernel
theorem dX6_dispute_27 : decode cX6_dispute 27 = .ok (.goto (-21), 3) := by decide +kernel
theorem dX6_dispute_30 : decode cX6_dispute 30 = .ok (.aload_n 0, 1) := by decide +kernel
theorem dX6_dispute_31 : decode cX6_dispute 31 = .ok (.invokevirtual 178, 3) := by decide +kernel
theorem dX6_dispute_34 : decode cX6_dispute 34 = .ok (.iload_n 1, 1) := by decide +kernel
theorem dX6_dispute_35 : decode cX6_dispute 35 = .ok (.sipush 200, 3) := by decide +kernel
theorem dX6_dispute_38 : decode cX6_dispute 38 = .ok (.if_icmp .gt 7, 3) := by decide +kernel
theorem dX6_dispute_41 : decode cX6_dispute 41 = .ok (.iload_n 1, 1) := by decide +kernel
theorem dX6_dispute_42 : decode cX6_dispute 42 = .ok (.goto 8, 3) := by decide +kernel
theorem dX6_dispute_45 : decode cX6_dispute 45 = .ok (.aload_n 0, 1) := by decide +kernel
theorem dX6_dispute_46 : decode cX6_dispute 46 = .ok (.iconst 2, 1) := by decide +kernel
theorem dX6_dispute_47 : decode cX6_dispute 47 = .ok (.invokevirtual 55, 3) := by decide +kernel
theorem dX6_dispute_50 : decode cX6_dispute 50 = .ok (.ireturn, 1) := by decide +kernel
theorem dX6_bitsOf_0 : decode cX6_bitsOf 0 = .ok (.iconst 0, 1) := by decide +kernel
theorem dX6_bitsOf_1 : decode cX6_bitsOf 1 = .ok (.istore_n 1, 1) := by decide +kernel
theorem dX6_bitsOf_2 : decode cX6_bitsOf 2 = .ok (.iload_n 0, 1) := by decide +kernel
theorem dX6_bitsOf_3 : decode cX6_bitsOf 3 = .ok (.istore_n 2, 1) := by decide +kernel
theorem dX6_bitsOf_4 : decode cX6_bitsOf 4 = .ok (.iload_n 2, 1) := by decide +kernel
theorem dX6_bitsOf_5 : decode cX6_bitsOf 5 = .ok (.ifCond .eq 15, 3) := by decide +kernel
theorem dX6_bitsOf_8 : decode cX6_bitsOf 8 = .ok (.iinc 1 1, 3) := by decide +kernel
theorem dX6_bitsOf_11 : decode cX6_bitsOf 11 = .ok (.iload_n 2, 1) := by decide +kernel
theorem dX6_bitsOf_12 : decode cX6_bitsOf 12 = .ok (.iload_n 2, 1) := by decide +kernel
theorem dX6_bitsOf_13 : decode cX6_bitsOf 13 = .ok (.iconst 1, 1) := by decide +kernel
theorem dX6_bitsOf_14 : decode cX6_bitsOf 14 = .ok (.isub, 1) := by decide +kernel
theorem dX6_bitsOf_15 : decode cX6_bitsOf 15 = .ok (.iand, 1) := by decide +kernel
theorem dX6_bitsOf_16 : decode cX6_bitsOf 16 = .ok (.istore_n 2, 1) := by decide +kernel
theorem dX6_bitsOf_17 : decode cX6_bitsOf 17 = .ok (.goto (-13), 3) := by decide +kernel
theorem dX6_bitsOf_20 : decode cX6_bitsOf 20 = .ok (.iload_n 1, 1) := by decide +kernel
theorem dX6_bitsOf_21 : decode cX6_bitsOf 21 = .ok (.ireturn, 1) := by decide +kernel
theorem dX6_riseBut_0 : decode cX6_riseBut 0 = .ok (.iconst 0, 1) := by decide +kernel
theorem dX6_riseBut_1 : decode cX6_riseBut 1 = .ok (.istore_n 2, 1) := by decide +kernel
theorem dX6_riseBut_2 : decode cX6_riseBut 2 = .ok (.iconst 0, 1) := by decide +kernel
theorem dX6_riseBut_3 : decode cX6_riseBut 3 = .ok (.istore_n 3, 1) := by decide +kernel
theorem dX6_riseBut_4 : decode cX6_riseBut 4 = .ok (.iload_n 3, 1) := by decide +kernel
theorem dX6_riseBut_5 : decode cX6_riseBut 5 = .ok (.aload_n 0, 1) := by decide +kernel
theorem dX6_riseBut_6 : decode cX6_riseBut 6 = .ok (.getfield 7, 3) := by decide +kernel
theorem dX6_riseBut_9 : decode cX6_riseBut 9 = .ok (.iconst 1, 1) := by decide +kernel
theorem dX6_riseBut_10 : decode cX6_riseBut 10 = .ok (.iaload, 1) := by decide +kernel
theorem dX6_riseBut_11 : decode cX6_riseBut 11 = .ok (.if_icmp .ge 34, 3) := by decide +kernel
theorem dX6_riseBut_14 : decode cX6_riseBut 14 = .ok (.iload_n 2, 1) := by decide +kernel
theorem dX6_riseBut_15 : decode cX6_riseBut 15 = .ok (.iload_n 1, 1) := by decide +kernel
theorem dX6_riseBut_16 : decode cX6_riseBut 16 = .ok (.iload_n 3, 1) := by decide +kernel
theorem dX6_riseBut_17 : decode cX6_riseBut 17 = .ok (.ishr, 1) := by decide +kernel
theorem dX6_riseBut_18 : decode cX6_riseBut 18 = .ok (.iconst 1, 1) := by decide +kernel
theorem dX6_riseBut_19 : decode cX6_riseBut 19 = .ok (.iand, 1) := by decide +kernel
theorem dX6_riseBut_20 : decode cX6_riseBut 20 = .ok (.iconst 1, 1) := by decide +kernel
theorem dX6_riseBut_21 : decode cX6_riseBut 21 = .ok (.if_icmp .ne 7, 3) := by decide +kernel
theorem dX6_riseBut_24 : decode cX6_riseBut 24 = .ok (.iconst 0, 1) := by decide +kernel
theorem dX6_riseBut_25 : decode cX6_riseBut 25 = .ok (.goto 12, 3) := by decide +kernel
theorem dX6_riseBut_28 : decode cX6_riseBut 28 = .ok (.aload_n 0, 1) := by decide +kernel
theorem dX6_riseBut_29 : decode cX6_riseBut 29 = .ok (.getfield 7, 3) := by decide +kernel
theorem dX6_riseBut_32 : decode cX6_riseBut 32 = .ok (.bipush 32, 2) := by decide +kernel
theorem dX6_riseBut_34 : decode cX6_riseBut 34 = .ok (.iload_n 3, 1) := by decide +kernel
theorem dX6_riseBut_35 : decode cX6_riseBut 35 = .ok (.iadd, 1) := by decide +kernel
theorem dX6_riseBut_36 : decode cX6_riseBut 36 = .ok (.iaload, 1) := by decide +kernel
theorem dX6_riseBut_37 : decode cX6_riseBut 37 = .ok (.iadd, 1) := by decide +kernel
theorem dX6_riseBut_38 : decode cX6_riseBut 38 = .ok (.istore_n 2, 1) := by decide +kernel
theorem dX6_riseBut_39 : decode cX6_riseBut 39 = .ok (.iinc 3 1, 3) := by decide +kernel
theorem dX6_riseBut_42 : decode cX6_riseBut 42 = .ok (.goto (-38), 3) := by decide +kernel
theorem dX6_riseBut_45 : decode cX6_riseBut 45 = .ok (.iload_n 2, 1) := by decide +kernel
theorem dX6_riseBut_46 : decode cX6_riseBut 46 = .ok (.ireturn, 1) := by decide +kernel
set_option maxRecDepth 20000 in
theorem ggX6_levels_X6_in : GoodIn wsX6_levels wsX6_in := goodIn_r _ [5] (by decide +kernel) (by decide +kernel)
set_option maxRecDepth 20000 in
theorem gX6_levels_X6_in : GoodIn wsX6_levels (va_wsS RX6 51 yX6_in wsX6_in) := goodIn_app (goodIn_of _ (by decide +kernel)) ggX6_levels_X6_in
set_option maxRecDepth 20000 in
theorem ggX6_levels_X6_error : GoodIn wsX6_levels wsX6_error := goodIn_r _ [9, 10, 11, 19, 20, 21, 22, 23, 24, 25, 26, 27, 28, 29, 30, 31, 32, 33, 34, 35, 36, 37, 38] (by decide +kernel) (by decide +kernel)
set_option maxRecDepth 20000 in
theorem gX6_levels_X6_error : GoodIn wsX6_levels (wsV RX6 55 RX6 yX6_error wsX6_error) := goodIn_app (goodIn_of _ (by decide +kernel)) ggX6_levels_X6_error
set_option maxRecDepth 20000 in
theorem ggX6_levels_X6_bitsOf : GoodIn wsX6_levels wsX6_bitsOf := goodIn_r _ [14] (by decide +kernel) (by decide +kernel)
set_option maxRecDepth 20000 in
theorem gX6_levels_X6_bitsOf : GoodIn wsX6_levels (va_wsS RX6 190 yX6_bitsOf wsX6_bitsOf) := goodIn_app (goodIn_of _ (by decide +kernel)) ggX6_levels_X6_bitsOf
set_option maxRecDepth 20000 in
theorem ggX6_levels_X6_riseBut : GoodIn wsX6_levels wsX6_riseBut := goodIn_r _ [18, 1, 19, 20, 21, 22, 23, 24, 25, 26, 27, 28, 29, 30, 31, 32, 33, 34, 35, 36, 37, 38] (by decide +kernel) (by decide +kernel)
set_option maxRecDepth 20000 in
theorem gX6_levels_X6_riseBut : GoodIn wsX6_levels (wsV RX6 193 RX6 yX6_riseBut wsX6_riseBut) := goodIn_app (goodIn_of _ (by decide +kernel)) ggX6_levels_X6_riseBut
theorem dX6_levels_0 : decode cX6_levels 0 = .ok (.iload_n 1, 1) := by decide +kernel
theorem dX6_levels_1 : decode cX6_levels 1 = .ok (.bipush (-126), 2) := by decide +kernel
theorem dX6_levels_3 : decode cX6_levels 3 = .ok (.bipush 126, 2) := by decide +kernel
theorem dX6_levels_5 : decode cX6_levels 5 = .ok (.invokestatic 51, 3) := by decide +kernel
theorem dX6_levels_8 : decode cX6_levels 8 = .ok (.ifCond .eq 12, 3) := by decide +kernel
theorem dX6_levels_11 : decode cX6_levels 11 = .ok (.iload_n 2, 1) := by decide +kernel
theorem dX6_levels_12 : decode cX6_levels 12 = .ok (.iconst 0, 1) := by decide +kernel
theorem dX6_levels_13 : decode cX6_levels 13 = .ok (.iconst 1, 1) := by decide +kernel
theorem dX6_levels_14 : decode cX6_levels 14 = .ok (.invokestatic 51, 3) := by decide +kernel
theorem dX6_levels_17 : decode cX6_levels 17 = .ok (.ifCond .ne 9, 3) := by decide +kernel
theorem dX6_levels_20 : decode cX6_levels 20 = .ok (.aload_n 0, 1) := by decide +kernel
theorem dX6_levels_21 : decode cX6_levels 21 = .ok (.iconst 1, 1) := by decide +kernel
theorem dX6_levels_22 : decode cX6_levels 22 = .ok (.invokevirtual 55, 3) := by decide +kernel
theorem dX6_levels_25 : decode cX6_levels 25 = .ok (.ireturn, 1) := by decide +kernel
theorem dX6_levels_26 : decode cX6_levels 26 = .ok (.iconst (-1), 1) := by decide +kernel
theorem dX6_levels_27 : decode cX6_levels 27 = .ok (.istore_n 3, 1) := by decide +kernel
theorem dX6_levels_28 : decode cX6_levels 28 = .ok (.iconst 0, 1) := by decide +kernel
theorem dX6_levels_29 : decode cX6_levels 29 = .ok (.istore 4, 2) := by decide +kernel
theorem dX6_levels_31 : decode cX6_levels 31 = .ok (.iload 4, 2) := by decide +kernel
theorem dX6_levels_33 : decode cX6_levels 33 = .ok (.iconst 1, 1) := by decide +kernel
theorem dX6_levels_34 : decode cX6_levels 34 = .ok (.aload_n 0, 1) := by decide +kernel
theorem dX6_levels_35 : decode cX6_levels 35 = .ok (.getfield 7, 3) := by decide +kernel
theorem dX6_levels_38 : decode cX6_levels 38 = .ok (.iconst 1, 1) := by decide +kernel
theorem dX6_levels_39 : decode cX6_levels 39 = .ok (.iaload, 1) := by decide +kernel
theorem dX6_levels_40 : decode cX6_levels 40 = .ok (.ishl, 1) := by decide +kernel
theorem dX6_levels_41 : decode cX6_levels 41 = .ok (.if_icmp .ge 55, 3) := by decide +kernel
theorem dX6_levels_44 : decode cX6_levels 44 = .ok (.iload_n 3, 1) := by decide +kernel
theorem dX6_levels_45 : decode cX6_levels 45 = .ok (.iconst (-1), 1) := by decide +kernel
theorem dX6_levels_46 : decode cX6_levels 46 = .ok (.if_icmp .eq 15, 3) := by decide +kernel
theorem dX6_levels_49 : decode cX6_levels 49 = .ok (.iload 4, 2) := by decide +kernel
theorem dX6_levels_51 : decode cX6_levels 51 = .ok (.invokestatic 190, 3) := by decide +kernel
theorem dX6_levels_54 : decode cX6_levels 54 = .ok (.iload_n 3, 1) := by decide +kernel
theorem dX6_levels_55 : decode cX6_levels 55 = .ok (.invokestatic 190, 3) := by decide +kernel
theorem dX6_levels_58 : decode cX6_levels 58 = .ok (.if_icmp .ge 7, 3) := by decide +kernel
theorem dX6_levels_61 : decode cX6_levels 61 = .ok (.iconst 1, 1) := by decide +kernel
theorem dX6_levels_62 : decode cX6_levels 62 = .ok (.goto 4, 3) := by decide +kernel
theorem dX6_levels_65 : decode cX6_levels 65 = .ok (.iconst 0, 1) := by decide +kernel
theorem dX6_levels_66 : decode cX6_levels 66 = .ok (.istore 5, 2) := by decide +kernel
theorem dX6_levels_68 : decode cX6_levels 68 = .ok (.iload 5, 2) := by decide +kernel
theorem dX6_levels_70 : decode cX6_levels 70 = .ok (.ifCond .eq 18, 3) := by decide +kernel
theorem dX6_levels_73 : decode cX6_levels 73 = .ok (.aload_n 0, 1) := by decide +kernel
theorem dX6_levels_74 : decode cX6_levels 74 = .ok (.iload 4, 2) := by decide +kernel
theorem dX6_levels_76 : decode cX6_levels 76 = .ok (.invokevirtual 193, 3) := by decide +kernel
theorem dX6_levels_79 : decode cX6_levels 79 = .ok (.iload_n 1, 1) := by decide +kernel
theorem dX6_levels_80 : decode cX6_levels 80 = .ok (.if_icmp .ne 8, 3) := by decide +kernel
theorem dX6_levels_83 : decode cX6_levels 83 = .ok (.iload 4, 2) := by decide +kernel
theorem dX6_levels_85 : decode cX6_levels 85 = .ok (.goto 4, 3) := by decide +kernel
theorem dX6_levels_88 : decode cX6_levels 88 = .ok (.iload_n 3, 1) := by decide +kernel
theorem dX6_levels_89 : decode cX6_levels 89 = .ok (.istore_n 3, 1) := by decide +kernel
theorem dX6_levels_90 : decode cX6_levels 90 = .ok (.iinc 4 1, 3) := by decide +kernel
theorem dX6_levels_93 : decode cX6_levels 93 = .ok (.goto (-62), 3) := by decide +kernel
theorem dX6_levels_96 : decode cX6_levels 96 = .ok (.iload_n 3, 1) := by decide +kernel
theorem dX6_levels_97 : decode cX6_levels 97 = .ok (.iconst (-1), 1) := by decide +kernel
theorem dX6_levels_98 : decode cX6_levels 98 = .ok (.if_icmp .ne 9, 3) := by decide +kernel
theorem dX6_levels_101 : decode cX6_levels 101 = .ok (.aload_n 0, 1) := by decide +kernel
theorem dX6_levels_102 : decode cX6_levels 102 = .ok (.iconst 2, 1) := by decide +kernel
theorem dX6_levels_103 : decode cX6_levels 103 = .ok (.invokevirtual 55, 3) := by decide +kernel
theorem dX6_levels_106 : decode cX6_levels 106 = .ok (.ireturn, 1) := by decide +kernel
theorem dX6_levels_107 : decode cX6_levels 107 = .ok (.iload_n 2, 1) := by decide +kernel
theorem dX6_levels_108 : decode cX6_levels 108 = .ok (.ifCond .ne 10, 3) := by decide +kernel
theorem dX6_levels_111 : decode cX6_levels 111 = .ok (.iload_n 3, 1) := by decide +kernel
theorem dX6_levels_112 : decode cX6_levels 112 = .ok (.invokestatic 190, 3) := by decide +kernel
theorem dX6_levels_115 : decode cX6_levels 115 = .ok (.goto 4, 3) := by decide +kernel
theorem dX6_levels_118 : decode cX6_levels 118 = .ok (.iload_n 3, 1) := by decide +kernel
theorem dX6_levels_119 : decode cX6_levels 119 = .ok (.ireturn, 1) := by decide +kernel
set_option maxRecDepth 20000 in
theorem ggX6_countsSo_X6_layDown : GoodIn wsX6_countsSo wsX6_layDown := goodIn_r _ [8, 9, 1, 58, 59, 60, 61, 62, 63, 64, 65, 66, 67, 68, 69, 70, 71, 72, 73, 74, 75, 76, 77] (by decide +kernel) (by decide +kernel)
set_option maxRecDepth 20000 in
theorem gX6_countsSo_X6_layDown : GoodIn wsX6_countsSo (wsV RX6 175 RX6 yX6_layDown wsX6_layDown) := goodIn_app (goodIn_of _ (by decide +kernel)) ggX6_countsSo_X6_layDown
set_option maxRecDepth 20000 in
theorem ggX6_countsSo_X6_minute : GoodIn wsX6_countsSo wsX6_minute := goodIn_r _ [13, 1, 14, 15, 16, 7, 17, 18, 19, 20, 21, 22, 23, 24, 25, 26, 27, 28, 29, 30, 31, 32, 33, 34, 35, 36, 37, 38, 39, 40, 41, 42, 43, 44, 45, 46, 47, 48, 49, 50, 51, 52, 53, 58, 59, 60, 61, 62, 63, 64, 65, 66, 67, 68, 69, 70, 71, 72, 73, 74, 75, 76, 77] (by decide +kernel) (by decide +kernel)
set_option maxRecDepth 20000 in
theorem gX6_countsSo_X6_minute : GoodIn wsX6_countsSo (wsV RX6 166 RX6 yX6_minute wsX6_minute) := goodIn_app (goodIn_of _ (by decide +kernel)) ggX6_countsSo_X6_minute
set_option maxRecDepth 20000 in
theorem ggX6_countsSo_X6_its : GoodIn wsX6_countsSo wsX6_its := goodIn_r _ [25, 1, 58, 59, 60, 61, 62, 63, 64, 65, 66, 67, 68, 69, 70, 71, 72, 73, 74, 75, 76, 77] (by decide +kernel) (by decide +kernel)
set_option maxRecDepth 20000 in
theorem gX6_countsSo_X6_its : GoodIn wsX6_countsSo (wsV RX6 115 RX6 yX6_its wsX6_its) := goodIn_app (goodIn_of _ (by decide +kernel)) ggX6_countsSo_X6_its
set_option maxRecDepth 20000 in
theorem ggX6_countsSo_X6_layBack : GoodIn wsX6_countsSo wsX6_layBack := goodIn_r _ [57, 1, 9, 58, 59, 60, 61, 62, 63, 64, 65, 66, 67, 68, 69, 70, 71, 72, 73, 74, 75, 76, 77] (by decide +kernel) (by decide +kernel)
set_option maxRecDepth 20000 in
theorem gX6_countsSo_X6_layBack : GoodIn wsX6_countsSo (wsV RX6 178 RX6 yX6_layBack wsX6_layBack) := goodIn_app (goodIn_of _ (by decide +kernel)) ggX6_countsSo_X6_layBack
theorem dX6_countsSo_0 : decode cX6_countsSo 0 = .ok (.aload_n 0, 1) := by decide +kernel
theorem dX6_countsSo_1 : decode cX6_countsSo 1 = .ok (.invokevirtual 175, 3) := by decide +kernel
theorem dX6_countsSo_4 : decode cX6_countsSo 4 = .ok (.aload_n 0, 1) := by decide +kernel
theorem dX6_countsSo_5 : decode cX6_countsSo 5 = .ok (.getfield 7, 3) := by decide +kernel
theorem dX6_countsSo_8 : decode cX6_countsSo 8 = .ok (.iconst 2, 1) := by decide +kernel
theorem dX6_countsSo_9 : decode cX6_countsSo 9 = .ok (.iload_n 3, 1) := by decide +kernel
theorem dX6_countsSo_10 : decode cX6_countsSo 10 = .ok (.iastore, 1) := by decide +kernel
theorem dX6_countsSo_11 : decode cX6_countsSo 11 = .ok (.iconst 1, 1) := by decide +kernel
theorem dX6_countsSo_12 : decode cX6_countsSo 12 = .ok (.istore 4, 2) := by decide +kernel
theorem dX6_countsSo_14 : decode cX6_countsSo 14 = .ok (.iconst 0, 1) := by decide +kernel
theorem dX6_countsSo_15 : decode cX6_countsSo 15 = .ok (.istore 5, 2) := by decide +kernel
theorem dX6_countsSo_17 : decode cX6_countsSo 17 = .ok (.iload 5, 2) := by decide +kernel
theorem dX6_countsSo_19 : decode cX6_countsSo 19 = .ok (.aload_n 0, 1) := by decide +kernel
theorem dX6_countsSo_20 : decode cX6_countsSo 20 = .ok (.getfield 37, 3) := by decide +kernel
theorem dX6_countsSo_23 : decode cX6_countsSo 23 = .ok (.iload_n 2, 1) := by decide +kernel
theorem dX6_countsSo_24 : decode cX6_countsSo 24 = .ok (.iaload, 1) := by decide +kernel
theorem dX6_countsSo_25 : decode cX6_countsSo 25 = .ok (.if_icmp .ge 46, 3) := by decide +kernel
theorem dX6_countsSo_28 : decode cX6_countsSo 28 = .ok (.iload 4, 2) := by decide +kernel
theorem dX6_countsSo_30 : decode cX6_countsSo 30 = .ok (.ifCond .eq 41, 3) := by decide +kernel
theorem dX6_countsSo_33 : decode cX6_countsSo 33 = .ok (.aload_n 0, 1) := by decide +kernel
theorem dX6_countsSo_34 : decode cX6_countsSo 34 = .ok (.invokevirtual 166, 3) := by decide +kernel
theorem dX6_countsSo_37 : decode cX6_countsSo 37 = .ok (.aload_n 0, 1) := by decide +kernel
theorem dX6_countsSo_38 : decode cX6_countsSo 38 = .ok (.iload_n 1, 1) := by decide +kernel
theorem dX6_countsSo_39 : decode cX6_countsSo 39 = .ok (.iconst 3, 1) := by decide +kernel
theorem dX6_countsSo_40 : decode cX6_countsSo 40 = .ok (.invokevirtual 115, 3) := by decide +kernel
theorem dX6_countsSo_43 : decode cX6_countsSo 43 = .ok (.aload_n 0, 1) := by decide +kernel
theorem dX6_countsSo_44 : decode cX6_countsSo 44 = .ok (.getfield 40, 3) := by decide +kernel
theorem dX6_countsSo_47 : decode cX6_countsSo 47 = .ok (.bipush 24, 2) := by decide +kernel
theorem dX6_countsSo_49 : decode cX6_countsSo 49 = .ok (.iload_n 2, 1) := by decide +kernel
theorem dX6_countsSo_50 : decode cX6_countsSo 50 = .ok (.imul, 1) := by decide +kernel
theorem dX6_countsSo_51 : decode cX6_countsSo 51 = .ok (.iload 5, 2) := by decide +kernel
theorem dX6_countsSo_53 : decode cX6_countsSo 53 = .ok (.iadd, 1) := by decide +kernel
theorem dX6_countsSo_54 : decode cX6_countsSo 54 = .ok (.iaload, 1) := by decide +kernel
theorem dX6_countsSo_55 : decode cX6_countsSo 55 = .ok (.if_icmp .ne 7, 3) := by decide +kernel
theorem dX6_countsSo_58 : decode cX6_countsSo 58 = .ok (.iconst 1, 1) := by decide +kernel
theorem dX6_countsSo_59 : decode cX6_countsSo 59 = .ok (.goto 4, 3) := by decide +kernel
theorem dX6_countsSo_62 : decode cX6_countsSo 62 = .ok (.iconst 0, 1) := by decide +kernel
theorem dX6_countsSo_63 : decode cX6_countsSo 63 = .ok (.istore 4, 2) := by decide +kernel
theorem dX6_countsSo_65 : decode cX6_countsSo 65 = .ok (.iinc 5 1, 3) := by decide +kernel
theorem dX6_countsSo_68 : decode cX6_countsSo 68 = .ok (.goto (-51), 3) := by decide +kernel
theorem dX6_countsSo_71 : decode cX6_countsSo 71 = .ok (.aload_n 0, 1) := by decide +kernel
theorem dX6_countsSo_72 : decode cX6_countsSo 72 = .ok (.invokevirtual 178, 3) := by decide +kernel
theorem dX6_countsSo_75 : decode cX6_countsSo 75 = .ok (.iload 4, 2) := by decide +kernel
theorem dX6_countsSo_77 : decode cX6_countsSo 77 = .ok (.ireturn, 1) := by decide +kernel
set_option maxRecDepth 20000 in
theorem ggX6_suspects_X6_isClimber : GoodIn wsX6_suspects wsX6_isClimber := goodIn_r _ [6, 1, 7, 8, 5, 9, 83, 84, 85, 86, 87, 88, 89, 90, 91, 92, 93, 94, 95, 96, 97, 98, 99, 100, 101, 102] (by decide +kernel) (by decide +kernel)
set_option maxRecDepth 20000 in
theorem gX6_suspects_X6_isClimber : GoodIn wsX6_suspects (wsV RX6 154 RX6 yX6_isClimber wsX6_isClimber) := goodIn_app (goodIn_of _ (by decide +kernel)) ggX6_suspects_X6_isClimber
set_option maxRecDepth 20000 in
theorem ggX6_suspects_X6_lacks : GoodIn wsX6_suspects wsX6_lacks := goodIn_r _ [13, 14, 15, 16, 5, 17, 7, 8, 9, 83, 84, 85, 86, 87, 88, 89, 90, 91, 92, 93, 94, 95, 96, 97, 98, 99, 100, 101, 102] (by decide +kernel) (by decide +kernel)
set_option maxRecDepth 20000 in
theorem gX6_suspects_X6_lacks : GoodIn wsX6_suspects (wsV RX6 196 RX6 yX6_lacks wsX6_lacks) := goodIn_app (goodIn_of _ (by decide +kernel)) ggX6_suspects_X6_lacks
set_option maxRecDepth 20000 in
theorem ggX6_suspects_X6_error : GoodIn wsX6_suspects wsX6_error := goodIn_r _ [21, 22, 23, 83, 84, 85, 86, 87, 88, 89, 90, 91, 92, 93, 94, 95, 96, 97, 98, 99, 100, 101, 102] (by decide +kernel) (by decide +kernel)
set_option maxRecDepth 20000 in
theorem gX6_suspects_X6_error : GoodIn wsX6_suspects (wsV RX6 55 RX6 yX6_error wsX6_error) := goodIn_app (goodIn_of _ (by decide +kernel)) ggX6_suspects_X6_error
set_option maxRecDepth 20000 in
theorem ggX6_suspects_X6_countsSo : GoodIn wsX6_suspects wsX6_countsSo := goodIn_r _ [27, 1, 28, 29, 30, 31, 32, 5, 33, 34, 35, 36, 37, 38, 39, 40, 41, 42, 43, 44, 45, 46, 47, 48, 49, 50, 51, 52, 53, 54, 55, 56, 57, 58, 59, 60, 61, 62, 63, 64, 65, 66, 67, 68, 69, 70, 71, 72, 73, 74, 75, 76, 77, 78, 79, 80, 81, 82, 83, 84, 85, 86, 87, 88, 89, 90, 91, 92, 93, 94, 95, 96, 97, 98, 99, 100, 101, 102] (by decide +kernel) (by decide +kernel)
set_option maxRecDepth 20000 in
theorem gX6_suspects_X6_countsSo : GoodIn wsX6_suspects (wsV RX6 199 RX6 yX6_countsSo wsX6_countsSo) := goodIn_app (goodIn_of _ (by decide +kernel)) ggX6_suspects_X6_countsSo
theorem dX6_suspects_0 : decode cX6_suspects 0 = .ok (.aload_n 0, 1) := by decide +kernel
theorem dX6_suspects_1 : decode cX6_suspects 1 = .ok (.iload_n 1, 1) := by decide +kernel
theorem dX6_suspects_2 : decode cX6_suspects 2 = .ok (.invokevirtual 154, 3) := by decide +kernel
theorem dX6_suspects_5 : decode cX6_suspects 5 = .ok (.ifCond .eq 11, 3) := by decide +kernel
theorem dX6_suspects_8 : decode cX6_suspects 8 = .ok (.aload_n 0, 1) := by decide +kernel
theorem dX6_suspects_9 : decode cX6_suspects 9 = .ok (.iload_n 2, 1) := by decide +kernel
theorem dX6_suspects_10 : decode cX6_suspects 10 = .ok (.invokevirtual 196, 3) := by decide +kernel
theorem dX6_suspects_13 : decode cX6_suspects 13 = .ok (.goto 4, 3) := by decide +kernel
theorem dX6_suspects_16 : decode cX6_suspects 16 = .ok (.iconst 1, 1) := by decide +kernel
theorem dX6_suspects_17 : decode cX6_suspects 17 = .ok (.istore_n 3, 1) := by decide +kernel
theorem dX6_suspects_18 : decode cX6_suspects 18 = .ok (.iload_n 3, 1) := by decide +kernel
theorem dX6_suspects_19 : decode cX6_suspects 19 = .ok (.ifCond .eq 9, 3) := by decide +kernel
theorem dX6_suspects_22 : decode cX6_suspects 22 = .ok (.aload_n 0, 1) := by decide +kernel
theorem dX6_suspects_23 : decode cX6_suspects 23 = .ok (.iload_n 3, 1) := by decide +kernel
theorem dX6_suspects_24 : decode cX6_suspects 24 = .ok (.invokevirtual 55, 3) := by decide +kernel
theorem dX6_suspects_27 : decode cX6_suspects 27 = .ok (.ireturn, 1) := by decide +kernel
theorem dX6_suspects_28 : decode cX6_suspects 28 = .ok (.iconst 0, 1) := by decide +kernel
theorem dX6_suspects_29 : decode cX6_suspects 29 = .ok (.istore 4, 2) := by decide +kernel
theorem dX6_suspects_31 : decode cX6_suspects 31 = .ok (.iconst 0, 1) := by decide +kernel
theorem dX6_suspects_32 : decode cX6_suspects 32 = .ok (.istore 5, 2) := by decide +kernel
theorem dX6_suspects_34 : decode cX6_suspects 34 = .ok (.iload 5, 2) := by decide +kernel
theorem dX6_suspects_36 : decode cX6_suspects 36 = .ok (.aload_n 0, 1) := by decide +kernel
theorem dX6_suspects_37 : decode cX6_suspects 37 = .ok (.getfield 7, 3) := by decide +kernel
theorem dX6_suspects_40 : decode cX6_suspects 40 = .ok (.iconst 1, 1) := by decide +kernel
theorem dX6_suspects_41 : decode cX6_suspects 41 = .ok (.iaload, 1) := by decide +kernel
theorem dX6_suspects_42 : decode cX6_suspects 42 = .ok (.if_icmp .gt 48, 3) := by decide +kernel
theorem dX6_suspects_45 : decode cX6_suspects 45 = .ok (.iload 4, 2) := by decide +kernel
theorem dX6_suspects_47 : decode cX6_suspects 47 = .ok (.aload_n 0, 1) := by decide +kernel
theorem dX6_suspects_48 : decode cX6_suspects 48 = .ok (.iload_n 1, 1) := by decide +kernel
theorem dX6_suspects_49 : decode cX6_suspects 49 = .ok (.iload_n 2, 1) := by decide +kernel
theorem dX6_suspects_50 : decode cX6_suspects 50 = .ok (.iload 5, 2) := by decide +kernel
theorem dX6_suspects_52 : decode cX6_suspects 52 = .ok (.aload_n 0, 1) := by decide +kernel
theorem dX6_suspects_53 : decode cX6_suspects 53 = .ok (.getfield 7, 3) := by decide +kernel
theorem dX6_suspects_56 : decode cX6_suspects 56 = .ok (.iconst 1, 1) := by decide +kernel
theorem dX6_suspects_57 : decode cX6_suspects 57 = .ok (.iaload, 1) := by decide +kernel
theorem dX6_suspects_58 : decode cX6_suspects 58 = .ok (.if_icmp .ge 8, 3) := by decide +kernel
theorem dX6_suspects_61 : decode cX6_suspects 61 = .ok (.iload 5, 2) := by decide +kernel
theorem dX6_suspects_63 : decode cX6_suspects 63 = .ok (.goto 4, 3) := by decide +kernel
theorem dX6_suspects_66 : decode cX6_suspects 66 = .ok (.iconst (-1), 1) := by decide +kernel
theorem dX6_suspects_67 : decode cX6_suspects 67 = .ok (.invokevirtual 199, 3) := by decide +kernel
theorem dX6_suspects_70 : decode cX6_suspects 70 = .ok (.ifCond .eq 10, 3) := by decide +kernel
theorem dX6_suspects_73 : decode cX6_suspects 73 = .ok (.iconst 1, 1) := by decide +kernel
theorem dX6_suspects_74 : decode cX6_suspects 74 = .ok (.iload 5, 2) := by decide +kernel
theorem dX6_suspects_76 : decode cX6_suspects 76 = .ok (.ishl, 1) := by decide +kernel
theorem dX6_suspects_77 : decode cX6_suspects 77 = .ok (.goto 4, 3) := by decide +kernel
theorem dX6_suspects_80 : decode cX6_suspects 80 = .ok (.iconst 0, 1) := by decide +kernel
theorem dX6_suspects_81 : decode cX6_suspects 81 = .ok (.ior, 1) := by decide +kernel
theorem dX6_suspects_82 : decode cX6_suspects 82 = .ok (.istore 4, 2) := by decide +kernel
theorem dX6_suspects_84 : decode cX6_suspects 84 = .ok (.iinc 5 1, 3) := by decide +kernel
theorem dX6_suspects_87 : decode cX6_suspects 87 = .ok (.goto (-53), 3) := by decide +kernel
theorem dX6_suspects_90 : decode cX6_suspects 90 = .ok (.iload 4, 2) := by decide +kernel
theorem dX6_suspects_92 : decode cX6_suspects 92 = .ok (.ireturn, 1) := by decide +kernel
set_option maxRecDepth 20000 in
theorem ggX6_best_X6_isClimber : GoodIn wsX6_best wsX6_isClimber := goodIn_r _ [5, 6, 7, 8, 4, 9, 73, 74, 75, 76, 77, 78, 79, 80, 81, 82, 83, 84, 85, 86, 87, 88, 89, 90, 91, 92] (by decide +kernel) (by decide +kernel)
set_option maxRecDepth 20000 in
theorem gX6_best_X6_isClimber : GoodIn wsX6_best (wsV RX6 154 RX6 yX6_isClimber wsX6_isClimber) := goodIn_app (goodIn_of _ (by decide +kernel)) ggX6_best_X6_isClimber
set_option maxRecDepth 20000 in
theorem ggX6_best_X6_in : GoodIn wsX6_best wsX6_in := goodIn_r _ [9] (by decide +kernel) (by decide +kernel)
set_option maxRecDepth 20000 in
theorem gX6_best_X6_in : GoodIn wsX6_best (va_wsS RX6 51 yX6_in wsX6_in) := goodIn_app (goodIn_of _ (by decide +kernel)) ggX6_best_X6_in
set_option maxRecDepth 20000 in
theorem ggX6_best_X6_error : GoodIn wsX6_best wsX6_error := goodIn_r _ [13, 14, 15, 73, 74, 75, 76, 77, 78, 79, 80, 81, 82, 83, 84, 85, 86, 87, 88, 89, 90, 91, 92] (by decide +kernel) (by decide +kernel)
set_option maxRecDepth 20000 in
theorem gX6_best_X6_error : GoodIn wsX6_best (wsV RX6 55 RX6 yX6_error wsX6_error) := goodIn_app (goodIn_of _ (by decide +kernel)) ggX6_best_X6_error
set_option maxRecDepth 20000 in
theorem ggX6_best_X6_layDown : GoodIn wsX6_best wsX6_layDown := goodIn_r _ [19, 20, 6, 73, 74, 75, 76, 77, 78, 79, 80, 81, 82, 83, 84, 85, 86, 87, 88, 89, 90, 91, 92] (by decide +kernel) (by decide +kernel)
set_option maxRecDepth 20000 in
theorem gX6_best_X6_layDown : GoodIn wsX6_best (wsV RX6 175 RX6 yX6_layDown wsX6_layDown) := goodIn_app (goodIn_of _ (by decide +kernel)) ggX6_best_X6_layDown
set_option maxRecDepth 20000 in
theorem ggX6_best_X6_its : GoodIn wsX6_best wsX6_its := goodIn_r _ [24, 6, 73, 74, 75, 76, 77, 78, 79, 80, 81, 82, 83, 84, 85, 86, 87, 88, 89, 90, 91, 92] (by decide +kernel) (by decide +kernel)
set_option maxRecDepth 20000 in
theorem gX6_best_X6_its : GoodIn wsX6_best (wsV RX6 115 RX6 yX6_its wsX6_its) := goodIn_app (goodIn_of _ (by decide +kernel)) ggX6_best_X6_its
set_option maxRecDepth 20000 in
theorem ggX6_best_X6_worthTold : GoodIn wsX6_best wsX6_worthTold := goodIn_r _ [28, 29, 30, 31, 32, 4, 33, 6, 34, 35, 36, 37, 38, 39, 40, 41, 42, 43, 44, 73, 74, 75, 76, 77, 78, 79, 80, 81, 82, 83, 84, 85, 86, 87, 88, 89, 90, 91, 92] (by decide +kernel) (by decide +kernel)
set_option maxRecDepth 20000 in
theorem gX6_best_X6_worthTold : GoodIn wsX6_best (wsV RX6 160 RX6 yX6_worthTold wsX6_worthTold) := goodIn_app (goodIn_of _ (by decide +kernel)) ggX6_best_X6_worthTold
set_option maxRecDepth 20000 in
theorem ggX6_best_X6_minute : GoodIn wsX6_best wsX6_minute := goodIn_r _ [48, 6, 49, 50, 51, 4, 52, 53, 54, 55, 56, 21, 22, 23, 24, 57, 58, 59, 60, 61, 62, 63, 64, 29, 30, 31, 32, 33, 34, 35, 36, 37, 38, 39, 40, 41, 42, 43, 44, 65, 66, 67, 68, 73, 74, 75, 76, 77, 78, 79, 80, 81, 82, 83, 84, 85, 86, 87, 88, 89, 90, 91, 92] (by decide +kernel) (by decide +kernel)
set_option maxRecDepth 20000 in
theorem gX6_best_X6_minute : GoodIn wsX6_best (wsV RX6 166 RX6 yX6_minute wsX6_minute) := goodIn_app (goodIn_of _ (by decide +kernel)) ggX6_best_X6_minute
set_option maxRecDepth 20000 in
theorem ggX6_best_X6_layBack : GoodIn wsX6_best wsX6_layBack := goodIn_r _ [72, 6, 20, 73, 74, 75, 76, 77, 78, 79, 80, 81, 82, 83, 84, 85, 86, 87, 88, 89, 90, 91, 92] (by decide +kernel) (by decide +kernel)
set_option maxRecDepth 20000 in
theorem gX6_best_X6_layBack : GoodIn wsX6_best (wsV RX6 178 RX6 yX6_layBack wsX6_layBack) := goodIn_app (goodIn_of _ (by decide +kernel)) ggX6_best_X6_layBack
theorem dX6_best_0 : decode cX6_best 0 = .ok (.aload_n 0, 1) := by decide +kernel
theorem dX6_best_1 : decode cX6_best 1 = .ok (.iload_n 1, 1) := by decide +kernel
theorem dX6_best_2 : decode cX6_best 2 = .ok (.invokevirtual 154, 3) := by decide +kernel
theorem dX6_best_5 : decode cX6_best 5 = .ok (.ifCond .eq 22, 3) := by decide +kernel
theorem dX6_best_8 : decode cX6_best 8 = .ok (.iload_n 2, 1) := by decide +kernel
theorem dX6_best_9 : decode cX6_best 9 = .ok (.iconst 0, 1) := by decide +kernel
theorem dX6_best_10 : decode cX6_best 10 = .ok (.bipush 100, 2) := by decide +kernel
theorem dX6_best_12 : decode cX6_best 12 = .ok (.invokestatic 51, 3) := by decide +kernel
theorem dX6_best_15 : decode cX6_best 15 = .ok (.ifCond .eq 12, 3) := by decide +kernel
theorem dX6_best_18 : decode cX6_best 18 = .ok (.iload_n 3, 1) := by decide +kernel
theorem dX6_best_19 : decode cX6_best 19 = .ok (.iconst 0, 1) := by decide +kernel
theorem dX6_best_20 : decode cX6_best 20 = .ok (.iconst 2, 1) := by decide +kernel
theorem dX6_best_21 : decode cX6_best 21 = .ok (.invokestatic 51, 3) := by decide +kernel
theorem dX6_best_24 : decode cX6_best 24 = .ok (.ifCond .ne 9, 3) := by decide +kernel
theorem dX6_best_27 : decode cX6_best 27 = .ok (.aload_n 0, 1) := by decide +kernel
theorem dX6_best_28 : decode cX6_best 28 = .ok (.iconst 1, 1) := by decide +kernel
theorem dX6_best_29 : decode cX6_best 29 = .ok (.invokevirtual 55, 3) := by decide +kernel
theorem dX6_best_32 : decode cX6_best 32 = .ok (.ireturn, 1) := by decide +kernel
theorem dX6_best_33 : decode cX6_best 33 = .ok (.aload_n 0, 1) := by decide +kernel
theorem dX6_best_34 : decode cX6_best 34 = .ok (.invokevirtual 175, 3) := by decide +kernel
theorem dX6_best_37 : decode cX6_best 37 = .ok (.iconst (-1), 1) := by decide +kernel
theorem dX6_best_38 : decode cX6_best 38 = .ok (.istore 4, 2) := by decide +kernel
theorem dX6_best_40 : decode cX6_best 40 = .ok (.iconst 0, 1) := by decide +kernel
theorem dX6_best_41 : decode cX6_best 41 = .ok (.istore 5, 2) := by decide +kernel
theorem dX6_best_43 : decode cX6_best 43 = .ok (.iconst 0, 1) := by decide +kernel
theorem dX6_best_44 : decode cX6_best 44 = .ok (.istore 6, 2) := by decide +kernel
theorem dX6_best_46 : decode cX6_best 46 = .ok (.iconst 0, 1) := by decide +kernel
theorem dX6_best_47 : decode cX6_best 47 = .ok (.istore 7, 2) := by decide +kernel
theorem dX6_best_49 : decode cX6_best 49 = .ok (.iload 7, 2) := by decide +kernel
theorem dX6_best_51 : decode cX6_best 51 = .ok (.iload_n 2, 1) := by decide +kernel
theorem dX6_best_52 : decode cX6_best 52 = .ok (.if_icmp .gt 55, 3) := by decide +kernel
theorem dX6_best_55 : decode cX6_best 55 = .ok (.aload_n 0, 1) := by decide +kernel
theorem dX6_best_56 : decode cX6_best 56 = .ok (.aload_n 0, 1) := by decide +kernel
theorem dX6_best_57 : decode cX6_best 57 = .ok (.iload_n 1, 1) := by decide +kernel
theorem dX6_best_58 : decode cX6_best 58 = .ok (.iconst 2, 1) := by decide +kernel
theorem dX6_best_59 : decode cX6_best 59 = .ok (.invokevirtual 115, 3) := by decide +kernel
theorem dX6_best_62 : decode cX6_best 62 = .ok (.aload_n 0, 1) := by decide +kernel
theorem dX6_best_63 : decode cX6_best 63 = .ok (.iload_n 1, 1) := by decide +kernel
theorem dX6_best_64 : decode cX6_best 64 = .ok (.iconst 3, 1) := by decide +kernel
theorem dX6_best_65 : decode cX6_best 65 = .ok (.invokevirtual 115, 3) := by decide +kernel
theorem dX6_best_68 : decode cX6_best 68 = .ok (.iload_n 1, 1) := by decide +kernel
theorem dX6_best_69 : decode cX6_best 69 = .ok (.invokevirtual 160, 3) := by decide +kernel
theorem dX6_best_72 : decode cX6_best 72 = .ok (.istore 8, 2) := by decide +kernel
theorem dX6_best_74 : decode cX6_best 74 = .ok (.iload 8, 2) := by decide +kernel
theorem dX6_best_76 : decode cX6_best 76 = .ok (.iload 4, 2) := by decide +kernel
theorem dX6_best_78 : decode cX6_best 78 = .ok (.if_icmp .le 19, 3) := by decide +kernel
theorem dX6_best_81 : decode cX6_best 81 = .ok (.iload 8, 2) := by decide +kernel
theorem dX6_best_83 : decode cX6_best 83 = .ok (.istore 4, 2) := by decide +kernel
theorem dX6_best_85 : decode cX6_best 85 = .ok (.iload 7, 2) := by decide +kernel
theorem dX6_best_87 : decode cX6_best 87 = .ok (.istore 5, 2) := by decide +kernel
theorem dX6_best_89 : decode cX6_best 89 = .ok (.aload_n 0, 1) := by decide +kernel
theorem dX6_best_90 : decode cX6_best 90 = .ok (.iload_n 1, 1) := by decide +kernel
theorem dX6_best_91 : decode cX6_best 91 = .ok (.iconst 2, 1) := by decide +kernel
theorem dX6_best_92 : decode cX6_best 92 = .ok (.invokevirtual 115, 3) := by decide +kernel
theorem dX6_best_95 : decode cX6_best 95 = .ok (.istore 6, 2) := by decide +kernel
theorem dX6_best_97 : decode cX6_best 97 = .ok (.aload_n 0, 1) := by decide +kernel
theorem dX6_best_98 : decode cX6_best 98 = .ok (.invokevirtual 166, 3) := by decide +kernel
theorem dX6_best_101 : decode cX6_best 101 = .ok (.iinc 7 1, 3) := by decide +kernel
theorem dX6_best_104 : decode cX6_best 104 = .ok (.goto (-55), 3) := by decide +kernel
theorem dX6_best_107 : decode cX6_best 107 = .ok (.aload_n 0, 1) := by decide +kernel
theorem dX6_best_108 : decode cX6_best 108 = .ok (.invokevirtual 178, 3) := by decide +kernel
theorem dX6_best_111 : decode cX6_best 111 = .ok (.iload_n 3, 1) := by decide +kernel
theorem dX6_best_112 : decode cX6_best 112 = .ok (.ifCond .ne 8, 3) := by decide +kernel
theorem dX6_best_115 : decode cX6_best 115 = .ok (.iload 4, 2) := by decide +kernel
theorem dX6_best_117 : decode cX6_best 117 = .ok (.goto 15, 3) := by decide +kernel
theorem dX6_best_120 : decode cX6_best 120 = .ok (.iload_n 3, 1) := by decide +kernel
theorem dX6_best_121 : decode cX6_best 121 = .ok (.iconst 1, 1) := by decide +kernel
theorem dX6_best_122 : decode cX6_best 122 = .ok (.if_icmp .ne 8, 3) := by decide +kernel
theorem dX6_best_125 : decode cX6_best 125 = .ok (.iload 5, 2) := by decide +kernel
theorem dX6_best_127 : decode cX6_best 127 = .ok (.goto 5, 3) := by decide +kernel
theorem dX6_best_130 : decode cX6_best 130 = .ok (.iload 6, 2) := by decide +kernel
theorem dX6_best_132 : decode cX6_best 132 = .ok (.ireturn, 1) := by decide +kernel
theorem dX6_divisor_0 : decode cX6_divisor 0 = .ok (.iload_n 0, 1) := by decide +kernel
theorem dX6_divisor_1 : decode cX6_divisor 1 = .ok (.istore_n 2, 1) := by decide +kernel
theorem dX6_divisor_2 : decode cX6_divisor 2 = .ok (.iload_n 1, 1) := by decide +kernel
theorem dX6_divisor_3 : decode cX6_divisor 3 = .ok (.istore_n 3, 1) := by decide +kernel
theorem dX6_divisor_4 : decode cX6_divisor 4 = .ok (.iload_n 3, 1) := by decide +kernel
theorem dX6_divisor_5 : decode cX6_divisor 5 = .ok (.ifCond .eq 16, 3) := by decide +kernel
theorem dX6_divisor_8 : decode cX6_divisor 8 = .ok (.iload_n 2, 1) := by decide +kernel
theorem dX6_divisor_9 : decode cX6_divisor 9 = .ok (.iload_n 3, 1) := by decide +kernel
theorem dX6_divisor_10 : decode cX6_divisor 10 = .ok (.irem, 1) := by decide +kernel
theorem dX6_divisor_11 : decode cX6_divisor 11 = .ok (.istore 4, 2) := by decide +kernel
theorem dX6_divisor_13 : decode cX6_divisor 13 = .ok (.iload_n 3, 1) := by decide +kernel
theorem dX6_divisor_14 : decode cX6_divisor 14 = .ok (.istore_n 2, 1) := by decide +kernel
theorem dX6_divisor_15 : decode cX6_divisor 15 = .ok (.iload 4, 2) := by decide +kernel
theorem dX6_divisor_17 : decode cX6_divisor 17 = .ok (.istore_n 3, 1) := by decide +kernel
theorem dX6_divisor_18 : decode cX6_divisor 18 = .ok (.goto (-14), 3) := by decide +kernel
theorem dX6_divisor_21 : decode cX6_divisor 21 = .ok (.iload_n 2, 1) := by decide +kernel
theorem dX6_divisor_22 : decode cX6_divisor 22 = .ok (.ireturn, 1) := by decide +kernel
set_option maxRecDepth 20000 in
theorem ggX6_odds_X6_isClimber : GoodIn wsX6_odds wsX6_isClimber := goodIn_r _ [6, 1, 7, 8, 5, 9, 76, 77, 78, 79, 80, 81, 82, 83, 84, 85, 86, 87, 88, 89, 90, 91, 92, 93, 94, 95] (by decide +kernel) (by decide +kernel)
set_option maxRecDepth 20000 in
theorem gX6_odds_X6_isClimber : GoodIn wsX6_odds (wsV RX6 154 RX6 yX6_isClimber wsX6_isClimber) := goodIn_app (goodIn_of _ (by decide +kernel)) ggX6_odds_X6_isClimber
set_option maxRecDepth 20000 in
theorem ggX6_odds_X6_in : GoodIn wsX6_odds wsX6_in := goodIn_r _ [9] (by decide +kernel) (by decide +kernel)
set_option maxRecDepth 20000 in
theorem gX6_odds_X6_in : GoodIn wsX6_odds (va_wsS RX6 51 yX6_in wsX6_in) := goodIn_app (goodIn_of _ (by decide +kernel)) ggX6_odds_X6_in
set_option maxRecDepth 20000 in
theorem ggX6_odds_X6_error : GoodIn wsX6_odds wsX6_error := goodIn_r _ [13, 14, 15, 76, 77, 78, 79, 80, 81, 82, 83, 84, 85, 86, 87, 88, 89, 90, 91, 92, 93, 94, 95] (by decide +kernel) (by decide +kernel)
set_option maxRecDepth 20000 in
theorem gX6_odds_X6_error : GoodIn wsX6_odds (wsV RX6 55 RX6 yX6_error wsX6_error) := goodIn_app (goodIn_of _ (by decide +kernel)) ggX6_odds_X6_error
set_option maxRecDepth 20000 in
theorem ggX6_odds_X6_its : GoodIn wsX6_odds wsX6_its := goodIn_r _ [19, 1, 76, 77, 78, 79, 80, 81, 82, 83, 84, 85, 86, 87, 88, 89, 90, 91, 92, 93, 94, 95] (by decide +kernel) (by decide +kernel)
set_option maxRecDepth 20000 in
theorem gX6_odds_X6_its : GoodIn wsX6_odds (wsV RX6 115 RX6 yX6_its wsX6_its) := goodIn_app (goodIn_of _ (by decide +kernel)) ggX6_odds_X6_its
set_option maxRecDepth 20000 in
theorem ggX6_odds_X6_lays1 : GoodIn wsX6_odds wsX6_lays1 := goodIn_r _ [23, 1, 76, 77, 78, 79, 80, 81, 82, 83, 84, 85, 86, 87, 88, 89, 90, 91, 92, 93, 94, 95] (by decide +kernel) (by decide +kernel)
set_option maxRecDepth 20000 in
theorem gX6_odds_X6_lays1 : GoodIn wsX6_odds (wsV RX6 134 RX6 yX6_lays1 wsX6_lays1) := goodIn_app (goodIn_of _ (by decide +kernel)) ggX6_odds_X6_lays1
set_option maxRecDepth 20000 in
theorem ggX6_odds_X6_meets : GoodIn wsX6_odds wsX6_meets := goodIn_r _ [27, 28, 29, 30, 5, 31, 32, 1, 16, 17, 18, 19, 33, 34, 35, 36, 37, 38, 39, 40, 41, 42, 43, 44, 45, 46, 47, 48, 49, 50, 51, 52, 53, 54, 55, 56, 57, 58, 59, 60, 61, 62, 63, 64, 65, 66, 67, 68, 20, 21, 22, 23, 69, 70, 71, 72, 76, 77, 78, 79, 80, 81, 82, 83, 84, 85, 86, 87, 88, 89, 90, 91, 92, 93, 94, 95] (by decide +kernel) (by decide +kernel)
set_option maxRecDepth 20000 in
theorem gX6_odds_X6_meets : GoodIn wsX6_odds (wsV RX6 181 RX6 yX6_meets wsX6_meets) := goodIn_app (goodIn_of _ (by decide +kernel)) ggX6_odds_X6_meets
set_option maxRecDepth 20000 in
theorem ggX6_odds_X6_divisor : GoodIn wsX6_odds wsX6_divisor := goodIn_r _ [75] (by decide +kernel) (by decide +kernel)
set_option maxRecDepth 20000 in
theorem gX6_odds_X6_divisor : GoodIn wsX6_odds (va_wsS RX6 202 yX6_divisor wsX6_divisor) := goodIn_app (goodIn_of _ (by decide +kernel)) ggX6_odds_X6_divisor
theorem dX6_odds_0 : decode cX6_odds 0 = .ok (.aload_n 0, 1) := by decide +kernel
theorem dX6_odds_1 : decode cX6_odds 1 = .ok (.iload_n 1, 1) := by decide +kernel
theorem dX6_odds_2 : decode cX6_odds 2 = .ok (.invokevirtual 154, 3) := by decide +kernel
theorem dX6_odds_5 : decode cX6_odds 5 = .ok (.ifCond .eq 36, 3) := by decide +kernel
theorem dX6_odds_8 : decode cX6_odds 8 = .ok (.aload_n 0, 1) := by decide +kernel
theorem dX6_odds_9 : decode cX6_odds 9 = .ok (.iload_n 2, 1) := by decide +kernel
theorem dX6_odds_10 : decode cX6_odds 10 = .ok (.invokevirtual 154, 3) := by decide +kernel
theorem dX6_odds_13 : decode cX6_odds 13 = .ok (.ifCond .eq 28, 3) := by decide +kernel
theorem dX6_odds_16 : decode cX6_odds 16 = .ok (.iload_n 1, 1) := by decide +kernel
theorem dX6_odds_17 : decode cX6_odds 17 = .ok (.iload_n 2, 1) := by decide +kernel
theorem dX6_odds_18 : decode cX6_odds 18 = .ok (.if_icmp .eq 23, 3) := by decide +kernel
theorem dX6_odds_21 : decode cX6_odds 21 = .ok (.iload_n 3, 1) := by decide +kernel
theorem dX6_odds_22 : decode cX6_odds 22 = .ok (.iconst 0, 1) := by decide +kernel
theorem dX6_odds_23 : decode cX6_odds 23 = .ok (.bipush 100, 2) := by decide +kernel
theorem dX6_odds_25 : decode cX6_odds 25 = .ok (.invokestatic 51, 3) := by decide +kernel
theorem dX6_odds_28 : decode cX6_odds 28 = .ok (.ifCond .eq 13, 3) := by decide +kernel
theorem dX6_odds_31 : decode cX6_odds 31 = .ok (.iload 4, 2) := by decide +kernel
theorem dX6_odds_33 : decode cX6_odds 33 = .ok (.iconst 0, 1) := by decide +kernel
theorem dX6_odds_34 : decode cX6_odds 34 = .ok (.iconst 1, 1) := by decide +kernel
theorem dX6_odds_35 : decode cX6_odds 35 = .ok (.invokestatic 51, 3) := by decide +kernel
theorem dX6_odds_38 : decode cX6_odds 38 = .ok (.ifCond .ne 9, 3) := by decide +kernel
theorem dX6_odds_41 : decode cX6_odds 41 = .ok (.aload_n 0, 1) := by decide +kernel
theorem dX6_odds_42 : decode cX6_odds 42 = .ok (.iconst 1, 1) := by decide +kernel
theorem dX6_odds_43 : decode cX6_odds 43 = .ok (.invokevirtual 55, 3) := by decide +kernel
theorem dX6_odds_46 : decode cX6_odds 46 = .ok (.ireturn, 1) := by decide +kernel
theorem dX6_odds_47 : decode cX6_odds 47 = .ok (.aload_n 0, 1) := by decide +kernel
theorem dX6_odds_48 : decode cX6_odds 48 = .ok (.iload_n 1, 1) := by decide +kernel
theorem dX6_odds_49 : decode cX6_odds 49 = .ok (.iconst 2, 1) := by decide +kernel
theorem dX6_odds_50 : decode cX6_odds 50 = .ok (.invokevirtual 115, 3) := by decide +kernel
theorem dX6_odds_53 : decode cX6_odds 53 = .ok (.istore 5, 2) := by decide +kernel
theorem dX6_odds_55 : decode cX6_odds 55 = .ok (.aload_n 0, 1) := by decide +kernel
theorem dX6_odds_56 : decode cX6_odds 56 = .ok (.getfield 7, 3) := by decide +kernel
theorem dX6_odds_59 : decode cX6_odds 59 = .ok (.iconst 1, 1) := by decide +kernel
theorem dX6_odds_60 : decode cX6_odds 60 = .ok (.iaload, 1) := by decide +kernel
theorem dX6_odds_61 : decode cX6_odds 61 = .ok (.istore 6, 2) := by decide +kernel
theorem dX6_odds_63 : decode cX6_odds 63 = .ok (.iconst 0, 1) := by decide +kernel
theorem dX6_odds_64 : decode cX6_odds 64 = .ok (.istore 7, 2) := by decide +kernel
theorem dX6_odds_66 : decode cX6_odds 66 = .ok (.iconst 0, 1) := by decide +kernel
theorem dX6_odds_67 : decode cX6_odds 67 = .ok (.istore 8, 2) := by decide +kernel
theorem dX6_odds_69 : decode cX6_odds 69 = .ok (.iload 8, 2) := by decide +kernel
theorem dX6_odds_71 : decode cX6_odds 71 = .ok (.iload 6, 2) := by decide +kernel
theorem dX6_odds_73 : decode cX6_odds 73 = .ok (.if_icmp .ge 38, 3) := by decide +kernel
theorem dX6_odds_76 : decode cX6_odds 76 = .ok (.aload_n 0, 1) := by decide +kernel
theorem dX6_odds_77 : decode cX6_odds 77 = .ok (.iload_n 1, 1) := by decide +kernel
theorem dX6_odds_78 : decode cX6_odds 78 = .ok (.iconst 2, 1) := by decide +kernel
theorem dX6_odds_79 : decode cX6_odds 79 = .ok (.iload 8, 2) := by decide +kernel
theorem dX6_odds_81 : decode cX6_odds 81 = .ok (.invokevirtual 134, 3) := by decide +kernel
theorem dX6_odds_84 : decode cX6_odds 84 = .ok (.iload 7, 2) := by decide +kernel
theorem dX6_odds_86 : decode cX6_odds 86 = .ok (.aload_n 0, 1) := by decide +kernel
theorem dX6_odds_87 : decode cX6_odds 87 = .ok (.iload_n 1, 1) := by decide +kernel
theorem dX6_odds_88 : decode cX6_odds 88 = .ok (.iload_n 2, 1) := by decide +kernel
theorem dX6_odds_89 : decode cX6_odds 89 = .ok (.iload_n 3, 1) := by decide +kernel
theorem dX6_odds_90 : decode cX6_odds 90 = .ok (.invokevirtual 181, 3) := by decide +kernel
theorem dX6_odds_93 : decode cX6_odds 93 = .ok (.iconst (-1), 1) := by decide +kernel
theorem dX6_odds_94 : decode cX6_odds 94 = .ok (.if_icmp .ne 7, 3) := by decide +kernel
theorem dX6_odds_97 : decode cX6_odds 97 = .ok (.iconst 0, 1) := by decide +kernel
theorem dX6_odds_98 : decode cX6_odds 98 = .ok (.goto 4, 3) := by decide +kernel
theorem dX6_odds_101 : decode cX6_odds 101 = .ok (.iconst 1, 1) := by decide +kernel
theorem dX6_odds_102 : decode cX6_odds 102 = .ok (.iadd, 1) := by decide +kernel
theorem dX6_odds_103 : decode cX6_odds 103 = .ok (.istore 7, 2) := by decide +kernel
theorem dX6_odds_105 : decode cX6_odds 105 = .ok (.iinc 8 1, 3) := by decide +kernel
theorem dX6_odds_108 : decode cX6_odds 108 = .ok (.goto (-39), 3) := by decide +kernel
theorem dX6_odds_111 : decode cX6_odds 111 = .ok (.aload_n 0, 1) := by decide +kernel
theorem dX6_odds_112 : decode cX6_odds 112 = .ok (.iload_n 1, 1) := by decide +kernel
theorem dX6_odds_113 : decode cX6_odds 113 = .ok (.iconst 2, 1) := by decide +kernel
theorem dX6_odds_114 : decode cX6_odds 114 = .ok (.iload 5, 2) := by decide +kernel
theorem dX6_odds_116 : decode cX6_odds 116 = .ok (.invokevirtual 134, 3) := by decide +kernel
theorem dX6_odds_119 : decode cX6_odds 119 = .ok (.iload 7, 2) := by decide +kernel
theorem dX6_odds_121 : decode cX6_odds 121 = .ok (.iload 6, 2) := by decide +kernel
theorem dX6_odds_123 : decode cX6_odds 123 = .ok (.invokestatic 202, 3) := by decide +kernel
theorem dX6_odds_126 : decode cX6_odds 126 = .ok (.istore 8, 2) := by decide +kernel
theorem dX6_odds_128 : decode cX6_odds 128 = .ok (.iload 4, 2) := by decide +kernel
theorem dX6_odds_130 : decode cX6_odds 130 = .ok (.ifCond .ne 11, 3) := by decide +kernel
theorem dX6_odds_133 : decode cX6_odds 133 = .ok (.iload 7, 2) := by decide +kernel
theorem dX6_odds_135 : decode cX6_odds 135 = .ok (.iload 8, 2) := by decide +kernel
theorem dX6_odds_137 : decode cX6_odds 137 = .ok (.idiv, 1) := by decide +kernel
theorem dX6_odds_138 : decode cX6_odds 138 = .ok (.goto 8, 3) := by decide +kernel
theorem dX6_odds_141 : decode cX6_odds 141 = .ok (.iload 6, 2) := by decide +kernel
theorem dX6_odds_143 : decode cX6_odds 143 = .ok (.iload 8, 2) := by decide +kernel
theorem dX6_odds_145 : decode cX6_odds 145 = .ok (.idiv, 1) := by decide +kernel
theorem dX6_odds_146 : decode cX6_odds 146 = .ok (.ireturn, 1) := by decide +kernel
theorem dX6_begins_0 : decode cX6_begins 0 = .ok (.aload_n 0, 1) := by decide +kernel
theorem dX6_begins_1 : decode cX6_begins 1 = .ok (.getfield 205, 3) := by decide +kernel
theorem dX6_begins_4 : decode cX6_begins 4 = .ok (.bipush 30, 2) := by decide +kernel
theorem dX6_begins_6 : decode cX6_begins 6 = .ok (.if_icmp .ge 23, 3) := by decide +kernel
theorem dX6_begins_9 : decode cX6_begins 9 = .ok (.aload_n 0, 1) := by decide +kernel
theorem dX6_begins_10 : decode cX6_begins 10 = .ok (.getfield 31, 3) := by decide +kernel
theorem dX6_begins_13 : decode cX6_begins 13 = .ok (.aload_n 0, 1) := by decide +kernel
theorem dX6_begins_14 : decode cX6_begins 14 = .ok (.getfield 205, 3) := by decide +kernel
theorem dX6_begins_17 : decode cX6_begins 17 = .ok (.iload_n 1, 1) := by decide +kernel
theorem dX6_begins_18 : decode cX6_begins 18 = .ok (.iastore, 1) := by decide +kernel
theorem dX6_begins_19 : decode cX6_begins 19 = .ok (.aload_n 0, 1) := by decide +kernel
theorem dX6_begins_20 : decode cX6_begins 20 = .ok (.dup, 1) := by decide +kernel
theorem dX6_begins_21 : decode cX6_begins 21 = .ok (.getfield 205, 3) := by decide +kernel
theorem dX6_begins_24 : decode cX6_begins 24 = .ok (.iconst 1, 1) := by decide +kernel
theorem dX6_begins_25 : decode cX6_begins 25 = .ok (.iadd, 1) := by decide +kernel
theorem dX6_begins_26 : decode cX6_begins 26 = .ok (.putfield 205, 3) := by decide +kernel
theorem dX6_begins_29 : decode cX6_begins 29 = .ok (.return_, 1) := by decide +kernel
theorem dX6_above_0 : decode cX6_above 0 = .ok (.iload_n 0, 1) := by decide +kernel
theorem dX6_above_1 : decode cX6_above 1 = .ok (.iconst 4, 1) := by decide +kernel
theorem dX6_above_2 : decode cX6_above 2 = .ok (.if_icmp .ne 7, 3) := by decide +kernel
theorem dX6_above_5 : decode cX6_above 5 = .ok (.iconst 1, 1) := by decide +kernel
theorem dX6_above_6 : decode cX6_above 6 = .ok (.goto 13, 3) := by decide +kernel
theorem dX6_above_9 : decode cX6_above 9 = .ok (.iload_n 0, 1) := by decide +kernel
theorem dX6_above_10 : decode cX6_above 10 = .ok (.iconst 5, 1) := by decide +kernel
theorem dX6_above_11 : decode cX6_above 11 = .ok (.if_icmp .ne 7, 3) := by decide +kernel
theorem dX6_above_14 : decode cX6_above 14 = .ok (.iconst 2, 1) := by decide +kernel
theorem dX6_above_15 : decode cX6_above 15 = .ok (.goto 4, 3) := by decide +kernel
theorem dX6_above_18 : decode cX6_above 18 = .ok (.iconst 0, 1) := by decide +kernel
theorem dX6_above_19 : decode cX6_above 19 = .ok (.ireturn, 1) := by decide +kernel
set_option maxRecDepth 20000 in
theorem ggX6_kindNow_X6_its : GoodIn wsX6_kindNow wsX6_its := goodIn_r _ [6, 7, 8, 9, 10, 11, 12, 13, 14, 15, 16, 17, 18, 19, 20, 21, 22, 23, 24, 25, 26, 27] (by decide +kernel) (by decide +kernel)
set_option maxRecDepth 20000 in
theorem gX6_kindNow_X6_its : GoodIn wsX6_kindNow (wsV RX6 115 RX6 yX6_its wsX6_its) := goodIn_app (goodIn_of _ (by decide +kernel)) ggX6_kindNow_X6_its
theorem dX6_kindNow_0 : decode cX6_kindNow 0 = .ok (.aload_n 0, 1) := by decide +kernel
theorem dX6_kindNow_1 : decode cX6_kindNow 1 = .ok (.aload_n 0, 1) := by decide +kernel
theorem dX6_kindNow_2 : decode cX6_kindNow 2 = .ok (.getfield 208, 3) := by decide +kernel
theorem dX6_kindNow_5 : decode cX6_kindNow 5 = .ok (.iconst 0, 1) := by decide +kernel
theorem dX6_kindNow_6 : decode cX6_kindNow 6 = .ok (.invokevirtual 115, 3) := by decide +kernel
theorem dX6_kindNow_9 : decode cX6_kindNow 9 = .ok (.ireturn, 1) := by decide +kernel
set_option maxRecDepth 20000 in
theorem ggX6_mNow_X6_its : GoodIn wsX6_mNow wsX6_its := goodIn_r _ [6, 7, 8, 9, 10, 11, 12, 13, 14, 15, 16, 17, 18, 19, 20, 21, 22, 23, 24, 25, 26, 27] (by decide +kernel) (by decide +kernel)
set_option maxRecDepth 20000 in
theorem gX6_mNow_X6_its : GoodIn wsX6_mNow (wsV RX6 115 RX6 yX6_its wsX6_its) := goodIn_app (goodIn_of _ (by decide +kernel)) ggX6_mNow_X6_its
theorem dX6_mNow_0 : decode cX6_mNow 0 = .ok (.aload_n 0, 1) := by decide +kernel
theorem dX6_mNow_1 : decode cX6_mNow 1 = .ok (.aload_n 0, 1) := by decide +kernel
theorem dX6_mNow_2 : decode cX6_mNow 2 = .ok (.getfield 208, 3) := by decide +kernel
theorem dX6_mNow_5 : decode cX6_mNow 5 = .ok (.iconst 1, 1) := by decide +kernel
theorem dX6_mNow_6 : decode cX6_mNow 6 = .ok (.invokevirtual 115, 3) := by decide +kernel
theorem dX6_mNow_9 : decode cX6_mNow 9 = .ok (.ireturn, 1) := by decide +kernel
set_option maxRecDepth 20000 in
theorem ggX6_pantsAs_X6_begins : GoodIn wsX6_pantsAs wsX6_begins := goodIn_r _ [6, 7, 8, 15, 16, 17, 18, 19, 20, 21, 22, 23, 24, 25, 26, 27, 28, 29, 30, 31, 32, 33, 34] (by decide +kernel) (by decide +kernel)
set_option maxRecDepth 20000 in
theorem gX6_pantsAs_X6_begins : GoodIn wsX6_pantsAs (wsV RX6 211 RX6 yX6_begins wsX6_begins) := goodIn_app (goodIn_of _ (by decide +kernel)) ggX6_pantsAs_X6_begins
set_option maxRecDepth 20000 in
theorem ggX6_pantsAs_X6_above : GoodIn wsX6_pantsAs wsX6_above := goodIn_r _ [11] (by decide +kernel) (by decide +kernel)
set_option maxRecDepth 20000 in
theorem gX6_pantsAs_X6_above : GoodIn wsX6_pantsAs (va_wsS RX6 157 yX6_above wsX6_above) := goodIn_app (goodIn_of _ (by decide +kernel)) ggX6_pantsAs_X6_above
set_option maxRecDepth 20000 in
theorem ggX6_pantsAs_X6_pantsAs : GoodIn wsX6_pantsAs wsX6_pantsAs := goodIn_r _ [0, 1, 2, 3, 4, 5, 6, 7, 8, 9, 10, 11, 12, 13, 14, 15, 16, 17, 18, 19, 20, 21, 22, 23, 24, 25, 26, 27, 28, 29, 30, 31, 32, 33, 34] (by decide +kernel) (by decide +kernel)
set_option maxRecDepth 20000 in
theorem gX6_pantsAs_X6_pantsAs : GoodIn wsX6_pantsAs (wsV RX6 214 RX6 yX6_pantsAs wsX6_pantsAs) := goodIn_app (goodIn_of _ (by decide +kernel)) ggX6_pantsAs_X6_pantsAs
theorem dX6_pantsAs_0 : decode cX6_pantsAs 0 = .ok (.iload_n 1, 1) := by decide +kernel
theorem dX6_pantsAs_1 : decode cX6_pantsAs 1 = .ok (.tableswitch 101 0 6 #[43, 56, 101, 101, 74, 101, 92], 43) := by decide +kernel
theorem dX6_pantsAs_44 : decode cX6_pantsAs 44 = .ok (.aload_n 0, 1) := by decide +kernel
theorem dX6_pantsAs_45 : decode cX6_pantsAs 45 = .ok (.bipush 10, 2) := by decide +kernel
theorem dX6_pantsAs_47 : decode cX6_pantsAs 47 = .ok (.invokevirtual 211, 3) := by decide +kernel
theorem dX6_pantsAs_50 : decode cX6_pantsAs 50 = .ok (.iload_n 2, 1) := by decide +kernel
theorem dX6_pantsAs_51 : decode cX6_pantsAs 51 = .ok (.aload_n 0, 1) := by decide +kernel
theorem dX6_pantsAs_52 : decode cX6_pantsAs 52 = .ok (.getfield 208, 3) := by decide +kernel
theorem dX6_pantsAs_55 : decode cX6_pantsAs 55 = .ok (.iadd, 1) := by decide +kernel
theorem dX6_pantsAs_56 : decode cX6_pantsAs 56 = .ok (.ireturn, 1) := by decide +kernel
theorem dX6_pantsAs_57 : decode cX6_pantsAs 57 = .ok (.aload_n 0, 1) := by decide +kernel
theorem dX6_pantsAs_58 : decode cX6_pantsAs 58 = .ok (.bipush 20, 2) := by decide +kernel
theorem dX6_pantsAs_60 : decode cX6_pantsAs 60 = .ok (.invokevirtual 211, 3) := by decide +kernel
theorem dX6_pantsAs_63 : decode cX6_pantsAs 63 = .ok (.aload_n 0, 1) := by decide +kernel
theorem dX6_pantsAs_64 : decode cX6_pantsAs 64 = .ok (.iconst 1, 1) := by decide +kernel
theorem dX6_pantsAs_65 : decode cX6_pantsAs 65 = .ok (.invokestatic 157, 3) := by decide +kernel
theorem dX6_pantsAs_68 : decode cX6_pantsAs 68 = .ok (.iload_n 2, 1) := by decide +kernel
theorem dX6_pantsAs_69 : decode cX6_pantsAs 69 = .ok (.invokevirtual 214, 3) := by decide +kernel
theorem dX6_pantsAs_72 : decode cX6_pantsAs 72 = .ok (.iconst 4, 1) := by decide +kernel
theorem dX6_pantsAs_73 : decode cX6_pantsAs 73 = .ok (.isub, 1) := by decide +kernel
theorem dX6_pantsAs_74 : decode cX6_pantsAs 74 = .ok (.ireturn, 1) := by decide +kernel
theorem dX6_pantsAs_75 : decode cX6_pantsAs 75 = .ok (.aload_n 0, 1) := by decide +kernel
theorem dX6_pantsAs_76 : decode cX6_pantsAs 76 = .ok (.bipush 50, 2) := by decide +kernel
theorem dX6_pantsAs_78 : decode cX6_pantsAs 78 = .ok (.invokevirtual 211, 3) := by decide +kernel
theorem dX6_pantsAs_81 : decode cX6_pantsAs 81 = .ok (.aload_n 0, 1) := by decide +kernel
theorem dX6_pantsAs_82 : decode cX6_pantsAs 82 = .ok (.iconst 4, 1) := by decide +kernel
theorem dX6_pantsAs_83 : decode cX6_pantsAs 83 = .ok (.invokestatic 157, 3) := by decide +kernel
theorem dX6_pantsAs_86 : decode cX6_pantsAs 86 = .ok (.iload_n 2, 1) := by decide +kernel
theorem dX6_pantsAs_87 : decode cX6_pantsAs 87 = .ok (.invokevirtual 214, 3) := by decide +kernel
theorem dX6_pantsAs_90 : decode cX6_pantsAs 90 = .ok (.iconst 3, 1) := by decide +kernel
theorem dX6_pantsAs_91 : decode cX6_pantsAs 91 = .ok (.imul, 1) := by decide +kernel
theorem dX6_pantsAs_92 : decode cX6_pantsAs 92 = .ok (.ireturn, 1) := by decide +kernel
theorem dX6_pantsAs_93 : decode cX6_pantsAs 93 = .ok (.aload_n 0, 1) := by decide +kernel
theorem dX6_pantsAs_94 : decode cX6_pantsAs 94 = .ok (.bipush 70, 2) := by decide +kernel
theorem dX6_pantsAs_96 : decode cX6_pantsAs 96 = .ok (.invokevirtual 211, 3) := by decide +kernel
theorem dX6_pantsAs_99 : decode cX6_pantsAs 99 = .ok (.bipush 9, 2) := by decide +kernel
theorem dX6_pantsAs_101 : decode cX6_pantsAs 101 = .ok (.ireturn, 1) := by decide +kernel
theorem dX6_pantsAs_102 : decode cX6_pantsAs 102 = .ok (.aload_n 0, 1) := by decide +kernel
theorem dX6_pantsAs_103 : decode cX6_pantsAs 103 = .ok (.iload_n 1, 1) := by decide +kernel
theorem dX6_pantsAs_104 : decode cX6_pantsAs 104 = .ok (.invokestatic 157, 3) := by decide +kernel
theorem dX6_pantsAs_107 : decode cX6_pantsAs 107 = .ok (.iload_n 2, 1) := by decide +kernel
theorem dX6_pantsAs_108 : decode cX6_pantsAs 108 = .ok (.invokevirtual 214, 3) := by decide +kernel
theorem dX6_pantsAs_111 : decode cX6_pantsAs 111 = .ok (.ireturn, 1) := by decide +kernel
set_option maxRecDepth 20000 in
theorem ggX6_countsAs_X6_begins : GoodIn wsX6_countsAs wsX6_begins := goodIn_r _ [5, 6, 7, 32, 33, 34, 35, 36, 37, 38, 39, 40, 41, 42, 43, 44, 45, 46, 47, 48, 49, 50, 51] (by decide +kernel) (by decide +kernel)
set_option maxRecDepth 20000 in
theorem gX6_countsAs_X6_begins : GoodIn wsX6_countsAs (wsV RX6 211 RX6 yX6_begins wsX6_begins) := goodIn_app (goodIn_of _ (by decide +kernel)) ggX6_countsAs_X6_begins
set_option maxRecDepth 20000 in
theorem ggX6_countsAs_X6_kindNow : GoodIn wsX6_countsAs wsX6_kindNow := goodIn_r _ [11, 12, 13, 14, 15, 4, 16, 17, 32, 33, 34, 35, 36, 37, 38, 39, 40, 41, 42, 43, 44, 45, 46, 47, 48, 49, 50, 51] (by decide +kernel) (by decide +kernel)
set_option maxRecDepth 20000 in
theorem gX6_countsAs_X6_kindNow : GoodIn wsX6_countsAs (wsV RX6 217 RX6 yX6_kindNow wsX6_kindNow) := goodIn_app (goodIn_of _ (by decide +kernel)) ggX6_countsAs_X6_kindNow
set_option maxRecDepth 20000 in
theorem ggX6_countsAs_X6_pantsAs : GoodIn wsX6_countsAs wsX6_pantsAs := goodIn_r _ [21, 12, 1, 2, 3, 4, 5, 6, 7, 22, 23, 24, 18, 19, 20, 32, 33, 34, 35, 36, 37, 38, 39, 40, 41, 42, 43, 44, 45, 46, 47, 48, 49, 50, 51] (by decide +kernel) (by decide +kernel)
set_option maxRecDepth 20000 in
theorem gX6_countsAs_X6_pantsAs : GoodIn wsX6_countsAs (wsV RX6 214 RX6 yX6_pantsAs wsX6_pantsAs) := goodIn_app (goodIn_of _ (by decide +kernel)) ggX6_countsAs_X6_pantsAs
set_option maxRecDepth 20000 in
theorem ggX6_countsAs_X6_above : GoodIn wsX6_countsAs wsX6_above := goodIn_r _ [24] (by decide +kernel) (by decide +kernel)
set_option maxRecDepth 20000 in
theorem gX6_countsAs_X6_above : GoodIn wsX6_countsAs (va_wsS RX6 157 yX6_above wsX6_above) := goodIn_app (goodIn_of _ (by decide +kernel)) ggX6_countsAs_X6_above
set_option maxRecDepth 20000 in
theorem ggX6_countsAs_X6_countsAs : GoodIn wsX6_countsAs wsX6_countsAs := goodIn_r _ [0, 1, 2, 3, 4, 5, 6, 7, 8, 9, 10, 11, 12, 13, 14, 15, 16, 17, 18, 19, 20, 21, 22, 23, 24, 25, 26, 27, 28, 29, 30, 31, 32, 33, 34, 35, 36, 37, 38, 39, 40, 41, 42, 43, 44, 45, 46, 47, 48, 49, 50, 51] (by decide +kernel) (by decide +kernel)
set_option maxRecDepth 20000 in
theorem gX6_countsAs_X6_countsAs : GoodIn wsX6_countsAs (wsV RX6 220 RX6 yX6_countsAs wsX6_countsAs) := goodIn_app (goodIn_of _ (by decide +kernel)) ggX6_countsAs_X6_countsAs
set_option maxRecDepth 20000 in
theorem ggX6_countsAs_X6_mNow : GoodIn wsX6_countsAs wsX6_mNow := goodIn_r _ [31, 12, 13, 14, 15, 4, 16, 17, 32, 33, 34, 35, 36, 37, 38, 39, 40, 41, 42, 43, 44, 45, 46, 47, 48, 49, 50, 51] (by decide +kernel) (by decide +kernel)
set_option maxRecDepth 20000 in
theorem gX6_countsAs_X6_mNow : GoodIn wsX6_countsAs (wsV RX6 223 RX6 yX6_mNow wsX6_mNow) := goodIn_app (goodIn_of _ (by decide +kernel)) ggX6_countsAs_X6_mNow
theorem dX6_countsAs_0 : decode cX6_countsAs 0 = .ok (.iload_n 1, 1) := by decide +kernel
theorem dX6_countsAs_1 : decode cX6_countsAs 1 = .ok (.tableswitch 119 0 6 #[43, 119, 61, 119, 119, 79, 97], 43) := by decide +kernel
theorem dX6_countsAs_44 : decode cX6_countsAs 44 = .ok (.aload_n 0, 1) := by decide +kernel
theorem dX6_countsAs_45 : decode cX6_countsAs 45 = .ok (.bipush 11, 2) := by decide +kernel
theorem dX6_countsAs_47 : decode cX6_countsAs 47 = .ok (.invokevirtual 211, 3) := by decide +kernel
theorem dX6_countsAs_50 : decode cX6_countsAs 50 = .ok (.aload_n 0, 1) := by decide +kernel
theorem dX6_countsAs_51 : decode cX6_countsAs 51 = .ok (.aload_n 0, 1) := by decide +kernel
theorem dX6_countsAs_52 : decode cX6_countsAs 52 = .ok (.invokevirtual 217, 3) := by decide +kernel
theorem dX6_countsAs_55 : decode cX6_countsAs 55 = .ok (.iload_n 2, 1) := by decide +kernel
theorem dX6_countsAs_56 : decode cX6_countsAs 56 = .ok (.invokevirtual 214, 3) := by decide +kernel
theorem dX6_countsAs_59 : decode cX6_countsAs 59 = .ok (.iconst 2, 1) := by decide +kernel
theorem dX6_countsAs_60 : decode cX6_countsAs 60 = .ok (.imul, 1) := by decide +kernel
theorem dX6_countsAs_61 : decode cX6_countsAs 61 = .ok (.ireturn, 1) := by decide +kernel
theorem dX6_countsAs_62 : decode cX6_countsAs 62 = .ok (.aload_n 0, 1) := by decide +kernel
theorem dX6_countsAs_63 : decode cX6_countsAs 63 = .ok (.bipush 30, 2) := by decide +kernel
theorem dX6_countsAs_65 : decode cX6_countsAs 65 = .ok (.invokevirtual 211, 3) := by decide +kernel
theorem dX6_countsAs_68 : decode cX6_countsAs 68 = .ok (.iconst 0, 1) := by decide +kernel
theorem dX6_countsAs_69 : decode cX6_countsAs 69 = .ok (.aload_n 0, 1) := by decide +kernel
theorem dX6_countsAs_70 : decode cX6_countsAs 70 = .ok (.iconst 2, 1) := by decide +kernel
theorem dX6_countsAs_71 : decode cX6_countsAs 71 = .ok (.invokestatic 157, 3) := by decide +kernel
theorem dX6_countsAs_74 : decode cX6_countsAs 74 = .ok (.iload_n 2, 1) := by decide +kernel
theorem dX6_countsAs_75 : decode cX6_countsAs 75 = .ok (.invokevirtual 220, 3) := by decide +kernel
theorem dX6_countsAs_78 : decode cX6_countsAs 78 = .ok (.isub, 1) := by decide +kernel
theorem dX6_countsAs_79 : decode cX6_countsAs 79 = .ok (.ireturn, 1) := by decide +kernel
theorem dX6_countsAs_80 : decode cX6_countsAs 80 = .ok (.aload_n 0, 1) := by decide +kernel
theorem dX6_countsAs_81 : decode cX6_countsAs 81 = .ok (.bipush 60, 2) := by decide +kernel
theorem dX6_countsAs_83 : decode cX6_countsAs 83 = .ok (.invokevirtual 211, 3) := by decide +kernel
theorem dX6_countsAs_86 : decode cX6_countsAs 86 = .ok (.aload_n 0, 1) := by decide +kernel
theorem dX6_countsAs_87 : decode cX6_countsAs 87 = .ok (.iconst 5, 1) := by decide +kernel
theorem dX6_countsAs_88 : decode cX6_countsAs 88 = .ok (.invokestatic 157, 3) := by decide +kernel
theorem dX6_countsAs_91 : decode cX6_countsAs 91 = .ok (.iload_n 2, 1) := by decide +kernel
theorem dX6_countsAs_92 : decode cX6_countsAs 92 = .ok (.iconst 1, 1) := by decide +kernel
theorem dX6_countsAs_93 : decode cX6_countsAs 93 = .ok (.iadd, 1) := by decide +kernel
theorem dX6_countsAs_94 : decode cX6_countsAs 94 = .ok (.invokevirtual 220, 3) := by decide +kernel
theorem dX6_countsAs_97 : decode cX6_countsAs 97 = .ok (.ireturn, 1) := by decide +kernel
theorem dX6_countsAs_98 : decode cX6_countsAs 98 = .ok (.aload_n 0, 1) := by decide +kernel
theorem dX6_countsAs_99 : decode cX6_countsAs 99 = .ok (.bipush 71, 2) := by decide +kernel
theorem dX6_countsAs_101 : decode cX6_countsAs 101 = .ok (.invokevirtual 211, 3) := by decide +kernel
theorem dX6_countsAs_104 : decode cX6_countsAs 104 = .ok (.aload_n 0, 1) := by decide +kernel
theorem dX6_countsAs_105 : decode cX6_countsAs 105 = .ok (.bipush 6, 2) := by decide +kernel
theorem dX6_countsAs_107 : decode cX6_countsAs 107 = .ok (.invokestatic 157, 3) := by decide +kernel
theorem dX6_countsAs_110 : decode cX6_countsAs 110 = .ok (.iload_n 2, 1) := by decide +kernel
theorem dX6_countsAs_111 : decode cX6_countsAs 111 = .ok (.invokevirtual 220, 3) := by decide +kernel
theorem dX6_countsAs_114 : decode cX6_countsAs 114 = .ok (.aload_n 0, 1) := by decide +kernel
theorem dX6_countsAs_115 : decode cX6_countsAs 115 = .ok (.invokevirtual 223, 3) := by decide +kernel
theorem dX6_countsAs_118 : decode cX6_countsAs 118 = .ok (.iadd, 1) := by decide +kernel
theorem dX6_countsAs_119 : decode cX6_countsAs 119 = .ok (.ireturn, 1) := by decide +kernel
theorem dX6_countsAs_120 : decode cX6_countsAs 120 = .ok (.aload_n 0, 1) := by decide +kernel
theorem dX6_countsAs_121 : decode cX6_countsAs 121 = .ok (.iload_n 1, 1) := by decide +kernel
theorem dX6_countsAs_122 : decode cX6_countsAs 122 = .ok (.invokestatic 157, 3) := by decide +kernel
theorem dX6_countsAs_125 : decode cX6_countsAs 125 = .ok (.iload_n 2, 1) := by decide +kernel
theorem dX6_countsAs_126 : decode cX6_countsAs 126 = .ok (.invokevirtual 220, 3) := by decide +kernel
theorem dX6_countsAs_129 : decode cX6_countsAs 129 = .ok (.ireturn, 1) := by decide +kernel
set_option maxRecDepth 20000 in
theorem ggX6_swearsAs_X6_begins : GoodIn wsX6_swearsAs wsX6_begins := goodIn_r _ [6, 7, 8, 36, 37, 38, 39, 40, 41, 42, 43, 44, 45, 46, 47, 48, 49, 50, 51, 52, 53, 54, 55] (by decide +kernel) (by decide +kernel)
set_option maxRecDepth 20000 in
theorem gX6_swearsAs_X6_begins : GoodIn wsX6_swearsAs (wsV RX6 211 RX6 yX6_begins wsX6_begins) := goodIn_app (goodIn_of _ (by decide +kernel)) ggX6_swearsAs_X6_begins
set_option maxRecDepth 20000 in
theorem ggX6_swearsAs_X6_kindNow : GoodIn wsX6_swearsAs wsX6_kindNow := goodIn_r _ [12, 1, 13, 14, 15, 5, 16, 17, 36, 37, 38, 39, 40, 41, 42, 43, 44, 45, 46, 47, 48, 49, 50, 51, 52, 53, 54, 55] (by decide +kernel) (by decide +kernel)
set_option maxRecDepth 20000 in
theorem gX6_swearsAs_X6_kindNow : GoodIn wsX6_swearsAs (wsV RX6 217 RX6 yX6_kindNow wsX6_kindNow) := goodIn_app (goodIn_of _ (by decide +kernel)) ggX6_swearsAs_X6_kindNow
set_option maxRecDepth 20000 in
theorem ggX6_swearsAs_X6_countsAs : GoodIn wsX6_swearsAs wsX6_countsAs := goodIn_r _ [21, 2, 3, 4, 5, 6, 7, 8, 9, 10, 11, 12, 1, 13, 14, 15, 16, 17, 22, 23, 24, 25, 26, 27, 28, 18, 19, 20, 29, 30, 31, 32, 36, 37, 38, 39, 40, 41, 42, 43, 44, 45, 46, 47, 48, 49, 50, 51, 52, 53, 54, 55] (by decide +kernel) (by decide +kernel)
set_option maxRecDepth 20000 in
theorem gX6_swearsAs_X6_countsAs : GoodIn wsX6_swearsAs (wsV RX6 220 RX6 yX6_countsAs wsX6_countsAs) := goodIn_app (goodIn_of _ (by decide +kernel)) ggX6_swearsAs_X6_countsAs
set_option maxRecDepth 20000 in
theorem ggX6_swearsAs_X6_mNow : GoodIn wsX6_swearsAs wsX6_mNow := goodIn_r _ [32, 1, 13, 14, 15, 5, 16, 17, 36, 37, 38, 39, 40, 41, 42, 43, 44, 45, 46, 47, 48, 49, 50, 51, 52, 53, 54, 55] (by decide +kernel) (by decide +kernel)
set_option maxRecDepth 20000 in
theorem gX6_swearsAs_X6_mNow : GoodIn wsX6_swearsAs (wsV RX6 223 RX6 yX6_mNow wsX6_mNow) := goodIn_app (goodIn_of _ (by decide +kernel)) ggX6_swearsAs_X6_mNow
set_option maxRecDepth 20000 in
theorem ggX6_swearsAs_X6_above : GoodIn wsX6_swearsAs wsX6_above := goodIn_r _ [28] (by decide +kernel) (by decide +kernel)
set_option maxRecDepth 20000 in
theorem gX6_swearsAs_X6_above : GoodIn wsX6_swearsAs (va_wsS RX6 157 yX6_above wsX6_above) := goodIn_app (goodIn_of _ (by decide +kernel)) ggX6_swearsAs_X6_above
set_option maxRecDepth 20000 in
theorem ggX6_swearsAs_X6_swearsAs : GoodIn wsX6_swearsAs wsX6_swearsAs := goodIn_r _ [0, 1, 2, 3, 4, 5, 6, 7, 8, 9, 10, 11, 12, 13, 14, 15, 16, 17, 18, 19, 20, 21, 22, 23, 24, 25, 26, 27, 28, 29, 30, 31, 32, 33, 34, 35, 36, 37, 38, 39, 40, 41, 42, 43, 44, 45, 46, 47, 48, 49, 50, 51, 52, 53, 54, 55] (by decide +kernel) (by decide +kernel)
set_option maxRecDepth 20000 in
theorem gX6_swearsAs_X6_swearsAs : GoodIn wsX6_swearsAs (wsV RX6 226 RX6 yX6_swearsAs wsX6_swearsAs) := goodIn_app (goodIn_of _ (by decide +kernel)) ggX6_swearsAs_X6_swearsAs
theorem dX6_swearsAs_0 : decode cX6_swearsAs 0 = .ok (.iload_n 1, 1) := by decide +kernel
theorem dX6_swearsAs_1 : decode cX6_swearsAs 1 = .ok (.tableswitch 95 0 4 #[35, 95, 95, 56, 74], 35) := by decide +kernel
theorem dX6_swearsAs_36 : decode cX6_swearsAs 36 = .ok (.aload_n 0, 1) := by decide +kernel
theorem dX6_swearsAs_37 : decode cX6_swearsAs 37 = .ok (.bipush 12, 2) := by decide +kernel
theorem dX6_swearsAs_39 : decode cX6_swearsAs 39 = .ok (.invokevirtual 211, 3) := by decide +kernel
theorem dX6_swearsAs_42 : decode cX6_swearsAs 42 = .ok (.aload_n 0, 1) := by decide +kernel
theorem dX6_swearsAs_43 : decode cX6_swearsAs 43 = .ok (.aload_n 0, 1) := by decide +kernel
theorem dX6_swearsAs_44 : decode cX6_swearsAs 44 = .ok (.invokevirtual 217, 3) := by decide +kernel
theorem dX6_swearsAs_47 : decode cX6_swearsAs 47 = .ok (.iload_n 2, 1) := by decide +kernel
theorem dX6_swearsAs_48 : decode cX6_swearsAs 48 = .ok (.invokevirtual 220, 3) := by decide +kernel
theorem dX6_swearsAs_51 : decode cX6_swearsAs 51 = .ok (.aload_n 0, 1) := by decide +kernel
theorem dX6_swearsAs_52 : decode cX6_swearsAs 52 = .ok (.invokevirtual 223, 3) := by decide +kernel
theorem dX6_swearsAs_55 : decode cX6_swearsAs 55 = .ok (.isub, 1) := by decide +kernel
theorem dX6_swearsAs_56 : decode cX6_swearsAs 56 = .ok (.ireturn, 1) := by decide +kernel
theorem dX6_swearsAs_57 : decode cX6_swearsAs 57 = .ok (.aload_n 0, 1) := by decide +kernel
theorem dX6_swearsAs_58 : decode cX6_swearsAs 58 = .ok (.bipush 40, 2) := by decide +kernel
theorem dX6_swearsAs_60 : decode cX6_swearsAs 60 = .ok (.invokevirtual 211, 3) := by decide +kernel
theorem dX6_swearsAs_63 : decode cX6_swearsAs 63 = .ok (.aload_n 0, 1) := by decide +kernel
theorem dX6_swearsAs_64 : decode cX6_swearsAs 64 = .ok (.iconst 3, 1) := by decide +kernel
theorem dX6_swearsAs_65 : decode cX6_swearsAs 65 = .ok (.invokestatic 157, 3) := by decide +kernel
theorem dX6_swearsAs_68 : decode cX6_swearsAs 68 = .ok (.iload_n 2, 1) := by decide +kernel
theorem dX6_swearsAs_69 : decode cX6_swearsAs 69 = .ok (.iconst 2, 1) := by decide +kernel
theorem dX6_swearsAs_70 : decode cX6_swearsAs 70 = .ok (.idiv, 1) := by decide +kernel
theorem dX6_swearsAs_71 : decode cX6_swearsAs 71 = .ok (.invokevirtual 226, 3) := by decide +kernel
theorem dX6_swearsAs_74 : decode cX6_swearsAs 74 = .ok (.ireturn, 1) := by decide +kernel
theorem dX6_swearsAs_75 : decode cX6_swearsAs 75 = .ok (.aload_n 0, 1) := by decide +kernel
theorem dX6_swearsAs_76 : decode cX6_swearsAs 76 = .ok (.bipush 51, 2) := by decide +kernel
theorem dX6_swearsAs_78 : decode cX6_swearsAs 78 = .ok (.invokevirtual 211, 3) := by decide +kernel
theorem dX6_swearsAs_81 : decode cX6_swearsAs 81 = .ok (.aload_n 0, 1) := by decide +kernel
theorem dX6_swearsAs_82 : decode cX6_swearsAs 82 = .ok (.iconst 4, 1) := by decide +kernel
theorem dX6_swearsAs_83 : decode cX6_swearsAs 83 = .ok (.invokestatic 157, 3) := by decide +kernel
theorem dX6_swearsAs_86 : decode cX6_swearsAs 86 = .ok (.iload_n 2, 1) := by decide +kernel
theorem dX6_swearsAs_87 : decode cX6_swearsAs 87 = .ok (.invokevirtual 226, 3) := by decide +kernel
theorem dX6_swearsAs_90 : decode cX6_swearsAs 90 = .ok (.aload_n 0, 1) := by decide +kernel
theorem dX6_swearsAs_91 : decode cX6_swearsAs 91 = .ok (.getfield 208, 3) := by decide +kernel
theorem dX6_swearsAs_94 : decode cX6_swearsAs 94 = .ok (.ixor, 1) := by decide +kernel
theorem dX6_swearsAs_95 : decode cX6_swearsAs 95 = .ok (.ireturn, 1) := by decide +kernel
theorem dX6_swearsAs_96 : decode cX6_swearsAs 96 = .ok (.aload_n 0, 1) := by decide +kernel
theorem dX6_swearsAs_97 : decode cX6_swearsAs 97 = .ok (.iload_n 1, 1) := by decide +kernel
theorem dX6_swearsAs_98 : decode cX6_swearsAs 98 = .ok (.invokestatic 157, 3) := by decide +kernel
theorem dX6_swearsAs_101 : decode cX6_swearsAs 101 = .ok (.iload_n 2, 1) := by decide +kernel
theorem dX6_swearsAs_102 : decode cX6_swearsAs 102 = .ok (.invokevirtual 226, 3) := by decide +kernel
theorem dX6_swearsAs_105 : decode cX6_swearsAs 105 = .ok (.ireturn, 1) := by decide +kernel
set_option maxRecDepth 20000 in
theorem ggX6_partsAs_X6_begins : GoodIn wsX6_partsAs wsX6_begins := goodIn_r _ [7, 8, 9, 37, 38, 39, 40, 41, 42, 43, 44, 45, 46, 47, 48, 49, 50, 51, 52, 53, 54, 55, 56] (by decide +kernel) (by decide +kernel)
set_option maxRecDepth 20000 in
theorem gX6_partsAs_X6_begins : GoodIn wsX6_partsAs (wsV RX6 211 RX6 yX6_begins wsX6_begins) := goodIn_app (goodIn_of _ (by decide +kernel)) ggX6_partsAs_X6_begins
set_option maxRecDepth 20000 in
theorem ggX6_partsAs_X6_mNow : GoodIn wsX6_partsAs wsX6_mNow := goodIn_r _ [13, 1, 14, 15, 16, 6, 17, 18, 37, 38, 39, 40, 41, 42, 43, 44, 45, 46, 47, 48, 49, 50, 51, 52, 53, 54, 55, 56] (by decide +kernel) (by decide +kernel)
set_option maxRecDepth 20000 in
theorem gX6_partsAs_X6_mNow : GoodIn wsX6_partsAs (wsV RX6 223 RX6 yX6_mNow wsX6_mNow) := goodIn_app (goodIn_of _ (by decide +kernel)) ggX6_partsAs_X6_mNow
set_option maxRecDepth 20000 in
theorem ggX6_partsAs_X6_above : GoodIn wsX6_partsAs wsX6_above := goodIn_r _ [21] (by decide +kernel) (by decide +kernel)
set_option maxRecDepth 20000 in
theorem gX6_partsAs_X6_above : GoodIn wsX6_partsAs (va_wsS RX6 157 yX6_above wsX6_above) := goodIn_app (goodIn_of _ (by decide +kernel)) ggX6_partsAs_X6_above
set_option maxRecDepth 20000 in
theorem ggX6_partsAs_X6_partsAs : GoodIn wsX6_partsAs wsX6_partsAs := goodIn_r _ [0, 1, 2, 3, 4, 5, 6, 7, 8, 9, 10, 11, 12, 13, 14, 15, 16, 17, 18, 19, 20, 21, 22, 23, 24, 25, 26, 27, 28, 29, 30, 31, 32, 33, 34, 35, 36, 37, 38, 39, 40, 41, 42, 43, 44, 45, 46, 47, 48, 49, 50, 51, 52, 53, 54, 55, 56] (by decide +kernel) (by decide +kernel)
set_option maxRecDepth 20000 in
theorem gX6_partsAs_X6_partsAs : GoodIn wsX6_partsAs (wsV RX6 233 RX6 yX6_partsAs wsX6_partsAs) := goodIn_app (goodIn_of _ (by decide +kernel)) ggX6_partsAs_X6_partsAs
set_option maxRecDepth 20000 in
theorem ggX6_partsAs_X6_kindNow : GoodIn wsX6_partsAs wsX6_kindNow := goodIn_r _ [28, 1, 14, 15, 16, 6, 17, 18, 37, 38, 39, 40, 41, 42, 43, 44, 45, 46, 47, 48, 49, 50, 51, 52, 53, 54, 55, 56] (by decide +kernel) (by decide +kernel)
set_option maxRecDepth 20000 in
theorem gX6_partsAs_X6_kindNow : GoodIn wsX6_partsAs (wsV RX6 217 RX6 yX6_kindNow wsX6_kindNow) := goodIn_app (goodIn_of _ (by decide +kernel)) ggX6_partsAs_X6_kindNow
set_option maxRecDepth 20000 in
theorem ggX6_partsAs_X6_countsAs : GoodIn wsX6_partsAs wsX6_countsAs := goodIn_r _ [32, 3, 4, 5, 6, 7, 8, 9, 25, 26, 27, 28, 1, 14, 15, 16, 17, 18, 33, 34, 35, 36, 19, 20, 21, 29, 30, 31, 10, 11, 12, 13, 37, 38, 39, 40, 41, 42, 43, 44, 45, 46, 47, 48, 49, 50, 51, 52, 53, 54, 55, 56] (by decide +kernel) (by decide +kernel)
set_option maxRecDepth 20000 in
theorem gX6_partsAs_X6_countsAs : GoodIn wsX6_partsAs (wsV RX6 220 RX6 yX6_countsAs wsX6_countsAs) := goodIn_app (goodIn_of _ (by decide +kernel)) ggX6_partsAs_X6_countsAs
theorem dX6_partsAs_0 : decode cX6_partsAs 0 = .ok (.iload_n 1, 1) := by decide +kernel
theorem dX6_partsAs_1 : decode cX6_partsAs 1 = .ok (.lookupswitch 119 #[(0, 27), (1, 78)], 27) := by decide +kernel
theorem dX6_partsAs_28 : decode cX6_partsAs 28 = .ok (.aload_n 0, 1) := by decide +kernel
theorem dX6_partsAs_29 : decode cX6_partsAs 29 = .ok (.bipush 13, 2) := by decide +kernel
theorem dX6_partsAs_31 : decode cX6_partsAs 31 = .ok (.invokevirtual 211, 3) := by decide +kernel
theorem dX6_partsAs_34 : decode cX6_partsAs 34 = .ok (.aload_n 0, 1) := by decide +kernel
theorem dX6_partsAs_35 : decode cX6_partsAs 35 = .ok (.invokevirtual 223, 3) := by decide +kernel
theorem dX6_partsAs_38 : decode cX6_partsAs 38 = .ok (.aload_n 0, 1) := by decide +kernel
theorem dX6_partsAs_39 : decode cX6_partsAs 39 = .ok (.getfield 208, 3) := by decide +kernel
theorem dX6_partsAs_42 : decode cX6_partsAs 42 = .ok (.isub, 1) := by decide +kernel
theorem dX6_partsAs_43 : decode cX6_partsAs 43 = .ok (.istore_n 3, 1) := by decide +kernel
theorem dX6_partsAs_44 : decode cX6_partsAs 44 = .ok (.aload_n 0, 1) := by decide +kernel
theorem dX6_partsAs_45 : decode cX6_partsAs 45 = .ok (.iload_n 3, 1) := by decide +kernel
theorem dX6_partsAs_46 : decode cX6_partsAs 46 = .ok (.ifCond .ne 7, 3) := by decide +kernel
theorem dX6_partsAs_49 : decode cX6_partsAs 49 = .ok (.iconst 1, 1) := by decide +kernel
theorem dX6_partsAs_50 : decode cX6_partsAs 50 = .ok (.goto 4, 3) := by decide +kernel
theorem dX6_partsAs_53 : decode cX6_partsAs 53 = .ok (.iconst 0, 1) := by decide +kernel
theorem dX6_partsAs_54 : decode cX6_partsAs 54 = .ok (.putfield 229, 3) := by decide +kernel
theorem dX6_partsAs_57 : decode cX6_partsAs 57 = .ok (.iload_n 3, 1) := by decide +kernel
theorem dX6_partsAs_58 : decode cX6_partsAs 58 = .ok (.ifCond .ne 7, 3) := by decide +kernel
theorem dX6_partsAs_61 : decode cX6_partsAs 61 = .ok (.iconst 0, 1) := by decide +kernel
theorem dX6_partsAs_62 : decode cX6_partsAs 62 = .ok (.goto 16, 3) := by decide +kernel
theorem dX6_partsAs_65 : decode cX6_partsAs 65 = .ok (.iload_n 3, 1) := by decide +kernel
theorem dX6_partsAs_66 : decode cX6_partsAs 66 = .ok (.iconst (-1), 1) := by decide +kernel
theorem dX6_partsAs_67 : decode cX6_partsAs 67 = .ok (.if_icmp .ne 8, 3) := by decide +kernel
theorem dX6_partsAs_70 : decode cX6_partsAs 70 = .ok (.iload_n 2, 1) := by decide +kernel
theorem dX6_partsAs_71 : decode cX6_partsAs 71 = .ok (.ineg, 1) := by decide +kernel
theorem dX6_partsAs_72 : decode cX6_partsAs 72 = .ok (.goto 6, 3) := by decide +kernel
theorem dX6_partsAs_75 : decode cX6_partsAs 75 = .ok (.iload_n 2, 1) := by decide +kernel
theorem dX6_partsAs_76 : decode cX6_partsAs 76 = .ok (.iload_n 3, 1) := by decide +kernel
theorem dX6_partsAs_77 : decode cX6_partsAs 77 = .ok (.idiv, 1) := by decide +kernel
theorem dX6_partsAs_78 : decode cX6_partsAs 78 = .ok (.ireturn, 1) := by decide +kernel
theorem dX6_partsAs_79 : decode cX6_partsAs 79 = .ok (.aload_n 0, 1) := by decide +kernel
theorem dX6_partsAs_80 : decode cX6_partsAs 80 = .ok (.bipush 21, 2) := by decide +kernel
theorem dX6_partsAs_82 : decode cX6_partsAs 82 = .ok (.invokevirtual 211, 3) := by decide +kernel
theorem dX6_partsAs_85 : decode cX6_partsAs 85 = .ok (.aload_n 0, 1) := by decide +kernel
theorem dX6_partsAs_86 : decode cX6_partsAs 86 = .ok (.iconst 1, 1) := by decide +kernel
theorem dX6_partsAs_87 : decode cX6_partsAs 87 = .ok (.invokestatic 157, 3) := by decide +kernel
theorem dX6_partsAs_90 : decode cX6_partsAs 90 = .ok (.iload_n 2, 1) := by decide +kernel
theorem dX6_partsAs_91 : decode cX6_partsAs 91 = .ok (.invokevirtual 233, 3) := by decide +kernel
theorem dX6_partsAs_94 : decode cX6_partsAs 94 = .ok (.istore 4, 2) := by decide +kernel
theorem dX6_partsAs_96 : decode cX6_partsAs 96 = .ok (.aload_n 0, 1) := by decide +kernel
theorem dX6_partsAs_97 : decode cX6_partsAs 97 = .ok (.getfield 229, 3) := by decide +kernel
theorem dX6_partsAs_100 : decode cX6_partsAs 100 = .ok (.ifCond .eq 7, 3) := by decide +kernel
theorem dX6_partsAs_103 : decode cX6_partsAs 103 = .ok (.iconst 0, 1) := by decide +kernel
theorem dX6_partsAs_104 : decode cX6_partsAs 104 = .ok (.goto 15, 3) := by decide +kernel
theorem dX6_partsAs_107 : decode cX6_partsAs 107 = .ok (.iload 4, 2) := by decide +kernel
theorem dX6_partsAs_109 : decode cX6_partsAs 109 = .ok (.aload_n 0, 1) := by decide +kernel
theorem dX6_partsAs_110 : decode cX6_partsAs 110 = .ok (.aload_n 0, 1) := by decide +kernel
theorem dX6_partsAs_111 : decode cX6_partsAs 111 = .ok (.invokevirtual 217, 3) := by decide +kernel
theorem dX6_partsAs_114 : decode cX6_partsAs 114 = .ok (.iconst 1, 1) := by decide +kernel
theorem dX6_partsAs_115 : decode cX6_partsAs 115 = .ok (.invokevirtual 220, 3) := by decide +kernel
theorem dX6_partsAs_118 : decode cX6_partsAs 118 = .ok (.iadd, 1) := by decide +kernel
theorem dX6_partsAs_119 : decode cX6_partsAs 119 = .ok (.ireturn, 1) := by decide +kernel
theorem dX6_partsAs_120 : decode cX6_partsAs 120 = .ok (.aload_n 0, 1) := by decide +kernel
theorem dX6_partsAs_121 : decode cX6_partsAs 121 = .ok (.iload_n 1, 1) := by decide +kernel
theorem dX6_partsAs_122 : decode cX6_partsAs 122 = .ok (.invokestatic 157, 3) := by decide +kernel
theorem dX6_partsAs_125 : decode cX6_partsAs 125 = .ok (.iload_n 2, 1) := by decide +kernel
theorem dX6_partsAs_126 : decode cX6_partsAs 126 = .ok (.invokevirtual 233, 3) := by decide +kernel
theorem dX6_partsAs_129 : decode cX6_partsAs 129 = .ok (.ireturn, 1) := by decide +kernel
set_option maxRecDepth 20000 in
theorem ggX6_voice_X6_isClimber : GoodIn wsX6_voice wsX6_isClimber := goodIn_r _ [8, 9, 10, 11, 7, 12, 55, 56, 57, 58, 59, 60, 61, 62, 63, 64, 65, 66, 67, 68, 69, 70, 71, 72, 73, 74] (by decide +kernel) (by decide +kernel)
set_option maxRecDepth 20000 in
theorem gX6_voice_X6_isClimber : GoodIn wsX6_voice (wsV RX6 154 RX6 yX6_isClimber wsX6_isClimber) := goodIn_app (goodIn_of _ (by decide +kernel)) ggX6_voice_X6_isClimber
set_option maxRecDepth 20000 in
theorem ggX6_voice_X6_in : GoodIn wsX6_voice wsX6_in := goodIn_r _ [12] (by decide +kernel) (by decide +kernel)
set_option maxRecDepth 20000 in
theorem gX6_voice_X6_in : GoodIn wsX6_voice (va_wsS RX6 51 yX6_in wsX6_in) := goodIn_app (goodIn_of _ (by decide +kernel)) ggX6_voice_X6_in
set_option maxRecDepth 20000 in
theorem ggX6_voice_X6_error : GoodIn wsX6_voice wsX6_error := goodIn_r _ [16, 17, 18, 55, 56, 57, 58, 59, 60, 61, 62, 63, 64, 65, 66, 67, 68, 69, 70, 71, 72, 73, 74] (by decide +kernel) (by decide +kernel)
set_option maxRecDepth 20000 in
theorem gX6_voice_X6_error : GoodIn wsX6_voice (wsV RX6 55 RX6 yX6_error wsX6_error) := goodIn_app (goodIn_of _ (by decide +kernel)) ggX6_voice_X6_error
set_option maxRecDepth 20000 in
theorem ggX6_voice_X6_kindNow : GoodIn wsX6_voice wsX6_kindNow := goodIn_r _ [22, 2, 23, 24, 25, 7, 26, 9, 55, 56, 57, 58, 59, 60, 61, 62, 63, 64, 65, 66, 67, 68, 69, 70, 71, 72, 73, 74] (by decide +kernel) (by decide +kernel)
set_option maxRecDepth 20000 in
theorem gX6_voice_X6_kindNow : GoodIn wsX6_voice (wsV RX6 217 RX6 yX6_kindNow wsX6_kindNow) := goodIn_app (goodIn_of _ (by decide +kernel)) ggX6_voice_X6_kindNow
set_option maxRecDepth 20000 in
theorem ggX6_voice_X6_pantsAs : GoodIn wsX6_voice wsX6_pantsAs := goodIn_r _ [30, 2, 31, 32, 33, 7, 34, 1, 35, 36, 37, 38, 27, 28, 29, 55, 56, 57, 58, 59, 60, 61, 62, 63, 64, 65, 66, 67, 68, 69, 70, 71, 72, 73, 74] (by decide +kernel) (by decide +kernel)
set_option maxRecDepth 20000 in
theorem gX6_voice_X6_pantsAs : GoodIn wsX6_voice (wsV RX6 214 RX6 yX6_pantsAs wsX6_pantsAs) := goodIn_app (goodIn_of _ (by decide +kernel)) ggX6_voice_X6_pantsAs
set_option maxRecDepth 20000 in
theorem ggX6_voice_X6_countsAs : GoodIn wsX6_voice wsX6_countsAs := goodIn_r _ [42, 31, 32, 33, 7, 34, 1, 35, 19, 20, 21, 22, 2, 23, 24, 25, 26, 9, 27, 28, 29, 30, 36, 37, 38, 39, 40, 41, 43, 44, 45, 46, 55, 56, 57, 58, 59, 60, 61, 62, 63, 64, 65, 66, 67, 68, 69, 70, 71, 72, 73, 74] (by decide +kernel) (by decide +kernel)
set_option maxRecDepth 20000 in
theorem gX6_voice_X6_countsAs : GoodIn wsX6_voice (wsV RX6 220 RX6 yX6_countsAs wsX6_countsAs) := goodIn_app (goodIn_of _ (by decide +kernel)) ggX6_voice_X6_countsAs
set_option maxRecDepth 20000 in
theorem ggX6_voice_X6_swearsAs : GoodIn wsX6_voice wsX6_swearsAs := goodIn_r _ [50, 2, 31, 32, 33, 7, 34, 1, 35, 19, 20, 21, 22, 23, 24, 25, 26, 9, 39, 40, 41, 42, 27, 28, 29, 30, 36, 37, 38, 43, 44, 45, 46, 47, 48, 49, 55, 56, 57, 58, 59, 60, 61, 62, 63, 64, 65, 66, 67, 68, 69, 70, 71, 72, 73, 74] (by decide +kernel) (by decide +kernel)
set_option maxRecDepth 20000 in
theorem gX6_voice_X6_swearsAs : GoodIn wsX6_voice (wsV RX6 226 RX6 yX6_swearsAs wsX6_swearsAs) := goodIn_app (goodIn_of _ (by decide +kernel)) ggX6_voice_X6_swearsAs
set_option maxRecDepth 20000 in
theorem ggX6_voice_X6_partsAs : GoodIn wsX6_voice wsX6_partsAs := goodIn_r _ [54, 2, 3, 31, 32, 33, 7, 34, 1, 35, 43, 44, 45, 46, 23, 24, 25, 26, 9, 36, 37, 38, 51, 52, 53, 19, 20, 21, 22, 39, 40, 41, 42, 27, 28, 29, 30, 55, 56, 57, 58, 59, 60, 61, 62, 63, 64, 65, 66, 67, 68, 69, 70, 71, 72, 73, 74] (by decide +kernel) (by decide +kernel)
set_option maxRecDepth 20000 in
theorem gX6_voice_X6_partsAs : GoodIn wsX6_voice (wsV RX6 233 RX6 yX6_partsAs wsX6_partsAs) := goodIn_app (goodIn_of _ (by decide +kernel)) ggX6_voice_X6_partsAs
theorem dX6_voice_0 : decode cX6_voice 0 = .ok (.aload_n 0, 1) := by decide +kernel
theorem dX6_voice_1 : decode cX6_voice 1 = .ok (.iload_n 1, 1) := by decide +kernel
theorem dX6_voice_2 : decode cX6_voice 2 = .ok (.invokevirtual 154, 3) := by decide +kernel
theorem dX6_voice_5 : decode cX6_voice 5 = .ok (.ifCond .eq 12, 3) := by decide +kernel
theorem dX6_voice_8 : decode cX6_voice 8 = .ok (.iload_n 2, 1) := by decide +kernel
theorem dX6_voice_9 : decode cX6_voice 9 = .ok (.iconst 0, 1) := by decide +kernel
theorem dX6_voice_10 : decode cX6_voice 10 = .ok (.iconst 3, 1) := by decide +kernel
theorem dX6_voice_11 : decode cX6_voice 11 = .ok (.invokestatic 51, 3) := by decide +kernel
theorem dX6_voice_14 : decode cX6_voice 14 = .ok (.ifCond .ne 9, 3) := by decide +kernel
theorem dX6_voice_17 : decode cX6_voice 17 = .ok (.aload_n 0, 1) := by decide +kernel
theorem dX6_voice_18 : decode cX6_voice 18 = .ok (.iconst 1, 1) := by decide +kernel
theorem dX6_voice_19 : decode cX6_voice 19 = .ok (.invokevirtual 55, 3) := by decide +kernel
theorem dX6_voice_22 : decode cX6_voice 22 = .ok (.ireturn, 1) := by decide +kernel
theorem dX6_voice_23 : decode cX6_voice 23 = .ok (.aload_n 0, 1) := by decide +kernel
theorem dX6_voice_24 : decode cX6_voice 24 = .ok (.iconst 0, 1) := by decide +kernel
theorem dX6_voice_25 : decode cX6_voice 25 = .ok (.putfield 205, 3) := by decide +kernel
theorem dX6_voice_28 : decode cX6_voice 28 = .ok (.aload_n 0, 1) := by decide +kernel
theorem dX6_voice_29 : decode cX6_voice 29 = .ok (.iload_n 1, 1) := by decide +kernel
theorem dX6_voice_30 : decode cX6_voice 30 = .ok (.putfield 208, 3) := by decide +kernel
theorem dX6_voice_33 : decode cX6_voice 33 = .ok (.aload_n 0, 1) := by decide +kernel
theorem dX6_voice_34 : decode cX6_voice 34 = .ok (.iconst 0, 1) := by decide +kernel
theorem dX6_voice_35 : decode cX6_voice 35 = .ok (.putfield 229, 3) := by decide +kernel
theorem dX6_voice_38 : decode cX6_voice 38 = .ok (.aload_n 0, 1) := by decide +kernel
theorem dX6_voice_39 : decode cX6_voice 39 = .ok (.invokevirtual 217, 3) := by decide +kernel
theorem dX6_voice_42 : decode cX6_voice 42 = .ok (.istore 4, 2) := by decide +kernel
theorem dX6_voice_44 : decode cX6_voice 44 = .ok (.iload_n 2, 1) := by decide +kernel
theorem dX6_voice_45 : decode cX6_voice 45 = .ok (.ifCond .ne 13, 3) := by decide +kernel
theorem dX6_voice_48 : decode cX6_voice 48 = .ok (.aload_n 0, 1) := by decide +kernel
theorem dX6_voice_49 : decode cX6_voice 49 = .ok (.iload 4, 2) := by decide +kernel
theorem dX6_voice_51 : decode cX6_voice 51 = .ok (.iload_n 3, 1) := by decide +kernel
theorem dX6_voice_52 : decode cX6_voice 52 = .ok (.invokevirtual 214, 3) := by decide +kernel
theorem dX6_voice_55 : decode cX6_voice 55 = .ok (.goto 40, 3) := by decide +kernel
theorem dX6_voice_58 : decode cX6_voice 58 = .ok (.iload_n 2, 1) := by decide +kernel
theorem dX6_voice_59 : decode cX6_voice 59 = .ok (.iconst 1, 1) := by decide +kernel
theorem dX6_voice_60 : decode cX6_voice 60 = .ok (.if_icmp .ne 13, 3) := by decide +kernel
theorem dX6_voice_63 : decode cX6_voice 63 = .ok (.aload_n 0, 1) := by decide +kernel
theorem dX6_voice_64 : decode cX6_voice 64 = .ok (.iload 4, 2) := by decide +kernel
theorem dX6_voice_66 : decode cX6_voice 66 = .ok (.iload_n 3, 1) := by decide +kernel
theorem dX6_voice_67 : decode cX6_voice 67 = .ok (.invokevirtual 220, 3) := by decide +kernel
theorem dX6_voice_70 : decode cX6_voice 70 = .ok (.goto 25, 3) := by decide +kernel
theorem dX6_voice_73 : decode cX6_voice 73 = .ok (.iload_n 2, 1) := by decide +kernel
theorem dX6_voice_74 : decode cX6_voice 74 = .ok (.iconst 2, 1) := by decide +kernel
theorem dX6_voice_75 : decode cX6_voice 75 = .ok (.if_icmp .ne 13, 3) := by decide +kernel
theorem dX6_voice_78 : decode cX6_voice 78 = .ok (.aload_n 0, 1) := by decide +kernel
theorem dX6_voice_79 : decode cX6_voice 79 = .ok (.iload 4, 2) := by decide +kernel
theorem dX6_voice_81 : decode cX6_voice 81 = .ok (.iload_n 3, 1) := by decide +kernel
theorem dX6_voice_82 : decode cX6_voice 82 = .ok (.invokevirtual 226, 3) := by decide +kernel
theorem dX6_voice_85 : decode cX6_voice 85 = .ok (.goto 10, 3) := by decide +kernel
theorem dX6_voice_88 : decode cX6_voice 88 = .ok (.aload_n 0, 1) := by decide +kernel
theorem dX6_voice_89 : decode cX6_voice 89 = .ok (.iload 4, 2) := by decide +kernel
theorem dX6_voice_91 : decode cX6_voice 91 = .ok (.iload_n 3, 1) := by decide +kernel
theorem dX6_voice_92 : decode cX6_voice 92 = .ok (.invokevirtual 233, 3) := by decide +kernel
theorem dX6_voice_95 : decode cX6_voice 95 = .ok (.istore 5, 2) := by decide +kernel
theorem dX6_voice_97 : decode cX6_voice 97 = .ok (.aload_n 0, 1) := by decide +kernel
theorem dX6_voice_98 : decode cX6_voice 98 = .ok (.getfield 229, 3) := by decide +kernel
theorem dX6_voice_101 : decode cX6_voice 101 = .ok (.ifCond .eq 12, 3) := by decide +kernel
theorem dX6_voice_104 : decode cX6_voice 104 = .ok (.aload_n 0, 1) := by decide +kernel
theorem dX6_voice_105 : decode cX6_voice 105 = .ok (.bipush 6, 2) := by decide +kernel
theorem dX6_voice_107 : decode cX6_voice 107 = .ok (.invokevirtual 55, 3) := by decide +kernel
theorem dX6_voice_110 : decode cX6_voice 110 = .ok (.goto 5, 3) := by decide +kernel
theorem dX6_voice_113 : decode cX6_voice 113 = .ok (.iload 5, 2) := by decide +kernel
theorem dX6_voice_115 : decode cX6_voice 115 = .ok (.ireturn, 1) := by decide +kernel
set_option maxRecDepth 20000 in
theorem ggX6_body_X6_in : GoodIn wsX6_body wsX6_in := goodIn_r _ [6] (by decide +kernel) (by decide +kernel)
set_option maxRecDepth 20000 in
theorem gX6_body_X6_in : GoodIn wsX6_body (va_wsS RX6 51 yX6_in wsX6_in) := goodIn_app (goodIn_of _ (by decide +kernel)) ggX6_body_X6_in
set_option maxRecDepth 20000 in
theorem ggX6_body_X6_error : GoodIn wsX6_body wsX6_error := goodIn_r _ [10, 11, 12, 13, 14, 15, 16, 17, 18, 19, 20, 21, 22, 23, 24, 25, 26, 27, 28, 29, 30, 31, 32] (by decide +kernel) (by decide +kernel)
set_option maxRecDepth 20000 in
theorem gX6_body_X6_error : GoodIn wsX6_body (wsV RX6 55 RX6 yX6_error wsX6_error) := goodIn_app (goodIn_of _ (by decide +kernel)) ggX6_body_X6_error
theorem dX6_body_0 : decode cX6_body 0 = .ok (.iload_n 1, 1) := by decide +kernel
theorem dX6_body_1 : decode cX6_body 1 = .ok (.iconst 0, 1) := by decide +kernel
theorem dX6_body_2 : decode cX6_body 2 = .ok (.aload_n 0, 1) := by decide +kernel
theorem dX6_body_3 : decode cX6_body 3 = .ok (.getfield 205, 3) := by decide +kernel
theorem dX6_body_6 : decode cX6_body 6 = .ok (.iconst 1, 1) := by decide +kernel
theorem dX6_body_7 : decode cX6_body 7 = .ok (.isub, 1) := by decide +kernel
theorem dX6_body_8 : decode cX6_body 8 = .ok (.invokestatic 51, 3) := by decide +kernel
theorem dX6_body_11 : decode cX6_body 11 = .ok (.ifCond .eq 12, 3) := by decide +kernel
theorem dX6_body_14 : decode cX6_body 14 = .ok (.aload_n 0, 1) := by decide +kernel
theorem dX6_body_15 : decode cX6_body 15 = .ok (.getfield 31, 3) := by decide +kernel
