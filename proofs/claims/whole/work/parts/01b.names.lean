theorem inJx145de : ∀ w ∈ wsJx145de0, w ∈ lw_tbl := by decide +kernel
theorem inJx9f9b0 : ∀ w ∈ wsJx9f9b00, w ∈ lw_tbl := by decide +kernel
theorem inJ11 : ∀ w ∈ wsJ110, w ∈ lw_tbl := by decide +kernel
theorem inJxb160c : ∀ w ∈ wsJxb160c0, w ∈ lw_tbl := by decide +kernel
theorem inJ6 : ∀ w ∈ wsJ60, w ∈ lw_tbl := by decide +kernel
theorem inJ9 : ∀ w ∈ wsJ90, w ∈ lw_tbl := by decide +kernel
theorem inJ0 : ∀ w ∈ wsJ00, w ∈ lw_tbl := by decide +kernel
theorem inJ1 : ∀ w ∈ wsJ10, w ∈ lw_tbl := by decide +kernel
theorem inJ2 : ∀ w ∈ wsJ20, w ∈ lw_tbl := by decide +kernel
theorem inJ10 : ∀ w ∈ wsJ100, w ∈ lw_tbl := by decide +kernel
theorem inJxfd54e : ∀ w ∈ wsJxfd54e0, w ∈ lw_tbl := by decide +kernel
theorem inJx3cf43 : ∀ w ∈ wsJx3cf430, w ∈ lw_tbl := by decide +kernel
theorem inJ7 : ∀ w ∈ wsJ70, w ∈ lw_tbl := by decide +kernel
theorem inJ3 : ∀ w ∈ wsJ30, w ∈ lw_tbl := by decide +kernel
theorem dX0_init_0 : decode cX0_init 0 = .ok (.aload_n 0, 1) := by decide +kernel
theorem dX0_init_1 : decode cX0_init 1 = .ok (.invokespecial 3, 3) := by decide +kernel
theorem dX0_init_4 : decode cX0_init 4 = .ok (.aload_n 0, 1) := by decide +kernel
theorem dX0_init_5 : decode cX0_init 5 = .ok (.bipush 60, 2) := by decide +kernel
theorem dX0_init_7 : decode cX0_init 7 = .ok (.newarray .int, 2) := by decide +kernel
theorem dX0_init_9 : decode cX0_init 9 = .ok (.putfield 9, 3) := by decide +kernel
theorem dX0_init_12 : decode cX0_init 12 = .ok (.aload_n 0, 1) := by decide +kernel
theorem dX0_init_13 : decode cX0_init 13 = .ok (.iconst 0, 1) := by decide +kernel
theorem dX0_init_14 : decode cX0_init 14 = .ok (.putfield 15, 3) := by decide +kernel
theorem dX0_init_17 : decode cX0_init 17 = .ok (.aload_n 0, 1) := by decide +kernel
theorem dX0_init_18 : decode cX0_init 18 = .ok (.bipush 60, 2) := by decide +kernel
theorem dX0_init_20 : decode cX0_init 20 = .ok (.newarray .int, 2) := by decide +kernel
theorem dX0_init_22 : decode cX0_init 22 = .ok (.putfield 19, 3) := by decide +kernel
theorem dX0_init_25 : decode cX0_init 25 = .ok (.return_, 1) := by decide +kernel
theorem dX0_stands_0 : decode cX0_stands 0 = .ok (.aload_n 0, 1) := by decide +kernel
theorem dX0_stands_1 : decode cX0_stands 1 = .ok (.getfield 15, 3) := by decide +kernel
theorem dX0_stands_4 : decode cX0_stands 4 = .ok (.ifCond .le 7, 3) := by decide +kernel
theorem dX0_stands_7 : decode cX0_stands 7 = .ok (.iconst 1, 1) := by decide +kernel
theorem dX0_stands_8 : decode cX0_stands 8 = .ok (.goto 4, 3) := by decide +kernel
theorem dX0_stands_11 : decode cX0_stands 11 = .ok (.iconst 0, 1) := by decide +kernel
theorem dX0_stands_12 : decode cX0_stands 12 = .ok (.ireturn, 1) := by decide +kernel
theorem dX0_clear_0 : decode cX0_clear 0 = .ok (.aload_n 0, 1) := by decide +kernel
theorem dX0_clear_1 : decode cX0_clear 1 = .ok (.iconst 0, 1) := by decide +kernel
theorem dX0_clear_2 : decode cX0_clear 2 = .ok (.putfield 15, 3) := by decide +kernel
theorem dX0_clear_5 : decode cX0_clear 5 = .ok (.return_, 1) := by decide +kernel
theorem dX0_add_0 : decode cX0_add 0 = .ok (.aload_n 0, 1) := by decide +kernel
theorem dX0_add_1 : decode cX0_add 1 = .ok (.getfield 15, 3) := by decide +kernel
theorem dX0_add_4 : decode cX0_add 4 = .ok (.aload_n 0, 1) := by decide +kernel
theorem dX0_add_5 : decode cX0_add 5 = .ok (.getfield 9, 3) := by decide +kernel
theorem dX0_add_8 : decode cX0_add 8 = .ok (.arraylength, 1) := by decide +kernel
theorem dX0_add_9 : decode cX0_add 9 = .ok (.if_icmp .ge 23, 3) := by decide +kernel
theorem dX0_add_12 : decode cX0_add 12 = .ok (.aload_n 0, 1) := by decide +kernel
theorem dX0_add_13 : decode cX0_add 13 = .ok (.getfield 9, 3) := by decide +kernel
theorem dX0_add_16 : decode cX0_add 16 = .ok (.aload_n 0, 1) := by decide +kernel
theorem dX0_add_17 : decode cX0_add 17 = .ok (.getfield 15, 3) := by decide +kernel
theorem dX0_add_20 : decode cX0_add 20 = .ok (.iload_n 1, 1) := by decide +kernel
theorem dX0_add_21 : decode cX0_add 21 = .ok (.iastore, 1) := by decide +kernel
theorem dX0_add_22 : decode cX0_add 22 = .ok (.aload_n 0, 1) := by decide +kernel
theorem dX0_add_23 : decode cX0_add 23 = .ok (.dup, 1) := by decide +kernel
theorem dX0_add_24 : decode cX0_add 24 = .ok (.getfield 15, 3) := by decide +kernel
theorem dX0_add_27 : decode cX0_add 27 = .ok (.iconst 1, 1) := by decide +kernel
theorem dX0_add_28 : decode cX0_add 28 = .ok (.iadd, 1) := by decide +kernel
theorem dX0_add_29 : decode cX0_add 29 = .ok (.putfield 15, 3) := by decide +kernel
theorem dX0_add_32 : decode cX0_add 32 = .ok (.return_, 1) := by decide +kernel
theorem dX0_copy_0 : decode cX0_copy 0 = .ok (.aload_n 0, 1) := by decide +kernel
theorem dX0_copy_1 : decode cX0_copy 1 = .ok (.aload_n 1, 1) := by decide +kernel
theorem dX0_copy_2 : decode cX0_copy 2 = .ok (.getfield 15, 3) := by decide +kernel
theorem dX0_copy_5 : decode cX0_copy 5 = .ok (.putfield 15, 3) := by decide +kernel
theorem dX0_copy_8 : decode cX0_copy 8 = .ok (.aload_n 1, 1) := by decide +kernel
theorem dX0_copy_9 : decode cX0_copy 9 = .ok (.getfield 9, 3) := by decide +kernel
theorem dX0_copy_12 : decode cX0_copy 12 = .ok (.iconst 0, 1) := by decide +kernel
theorem dX0_copy_13 : decode cX0_copy 13 = .ok (.aload_n 0, 1) := by decide +kernel
theorem dX0_copy_14 : decode cX0_copy 14 = .ok (.getfield 9, 3) := by decide +kernel
theorem dX0_copy_17 : decode cX0_copy 17 = .ok (.iconst 0, 1) := by decide +kernel
theorem dX0_copy_18 : decode cX0_copy 18 = .ok (.aload_n 0, 1) := by decide +kernel
theorem dX0_copy_19 : decode cX0_copy 19 = .ok (.getfield 15, 3) := by decide +kernel
theorem dX0_copy_22 : decode cX0_copy 22 = .ok (.invokestatic 22, 3) := by decide +kernel
theorem dX0_copy_25 : decode cX0_copy 25 = .ok (.return_, 1) := by decide +kernel
set_option maxRecDepth 20000 in
theorem ggX0_work_X0_join : GoodIn wsX0_work wsX0_join := goodIn_r _ [7] (by decide +kernel) (by decide +kernel)
set_option maxRecDepth 20000 in
theorem gX0_work_X0_join : GoodIn wsX0_work (va_wsS RX0 28 yX0_join wsX0_join) := goodIn_app (goodIn_of _ (by decide +kernel)) ggX0_work_X0_join
theorem dX0_work_0 : decode cX0_work 0 = .ok (.iconst 0, 1) := by decide +kernel
theorem dX0_work_1 : decode cX0_work 1 = .ok (.istore 4, 2) := by decide +kernel
theorem dX0_work_3 : decode cX0_work 3 = .ok (.iconst 0, 1) := by decide +kernel
theorem dX0_work_4 : decode cX0_work 4 = .ok (.istore 5, 2) := by decide +kernel
theorem dX0_work_6 : decode cX0_work 6 = .ok (.iload 5, 2) := by decide +kernel
theorem dX0_work_8 : decode cX0_work 8 = .ok (.aload_n 0, 1) := by decide +kernel
theorem dX0_work_9 : decode cX0_work 9 = .ok (.getfield 15, 3) := by decide +kernel
theorem dX0_work_12 : decode cX0_work 12 = .ok (.if_icmp .ge 161, 3) := by decide +kernel
theorem dX0_work_15 : decode cX0_work 15 = .ok (.aload_n 0, 1) := by decide +kernel
theorem dX0_work_16 : decode cX0_work 16 = .ok (.getfield 9, 3) := by decide +kernel
theorem dX0_work_19 : decode cX0_work 19 = .ok (.iload 5, 2) := by decide +kernel
theorem dX0_work_21 : decode cX0_work 21 = .ok (.iaload, 1) := by decide +kernel
theorem dX0_work_22 : decode cX0_work 22 = .ok (.istore 6, 2) := by decide +kernel
theorem dX0_work_24 : decode cX0_work 24 = .ok (.iload 6, 2) := by decide +kernel
theorem dX0_work_26 : decode cX0_work 26 = .ok (.bipush (-33), 2) := by decide +kernel
theorem dX0_work_28 : decode cX0_work 28 = .ok (.if_icmp .ne 37, 3) := by decide +kernel
theorem dX0_work_31 : decode cX0_work 31 = .ok (.iload 4, 2) := by decide +kernel
theorem dX0_work_33 : decode cX0_work 33 = .ok (.ifCond .le 134, 3) := by decide +kernel
theorem dX0_work_36 : decode cX0_work 36 = .ok (.aload_n 0, 1) := by decide +kernel
theorem dX0_work_37 : decode cX0_work 37 = .ok (.getfield 19, 3) := by decide +kernel
theorem dX0_work_40 : decode cX0_work 40 = .ok (.iload 4, 2) := by decide +kernel
theorem dX0_work_42 : decode cX0_work 42 = .ok (.iconst 1, 1) := by decide +kernel
theorem dX0_work_43 : decode cX0_work 43 = .ok (.isub, 1) := by decide +kernel
theorem dX0_work_44 : decode cX0_work 44 = .ok (.aload_n 0, 1) := by decide +kernel
theorem dX0_work_45 : decode cX0_work 45 = .ok (.getfield 19, 3) := by decide +kernel
theorem dX0_work_48 : decode cX0_work 48 = .ok (.iload 4, 2) := by decide +kernel
theorem dX0_work_50 : decode cX0_work 50 = .ok (.iconst 1, 1) := by decide +kernel
theorem dX0_work_51 : decode cX0_work 51 = .ok (.isub, 1) := by decide +kernel
theorem dX0_work_52 : decode cX0_work 52 = .ok (.iaload, 1) := by decide +kernel
theorem dX0_work_53 : decode cX0_work 53 = .ok (.ifCond .ne 7, 3) := by decide +kernel
theorem dX0_work_56 : decode cX0_work 56 = .ok (.iconst 1, 1) := by decide +kernel
theorem dX0_work_57 : decode cX0_work 57 = .ok (.goto 4, 3) := by decide +kernel
theorem dX0_work_60 : decode cX0_work 60 = .ok (.iconst 0, 1) := by decide +kernel
theorem dX0_work_61 : decode cX0_work 61 = .ok (.iastore, 1) := by decide +kernel
theorem dX0_work_62 : decode cX0_work 62 = .ok (.goto 105, 3) := by decide +kernel
theorem dX0_work_65 : decode cX0_work 65 = .ok (.iload 6, 2) := by decide +kernel
theorem dX0_work_67 : decode cX0_work 67 = .ok (.bipush (-3), 2) := by decide +kernel
theorem dX0_work_69 : decode cX0_work 69 = .ok (.if_icmp .ge 46, 3) := by decide +kernel
theorem dX0_work_72 : decode cX0_work 72 = .ok (.iload 4, 2) := by decide +kernel
theorem dX0_work_74 : decode cX0_work 74 = .ok (.iconst 1, 1) := by decide +kernel
theorem dX0_work_75 : decode cX0_work 75 = .ok (.if_icmp .le 92, 3) := by decide +kernel
theorem dX0_work_78 : decode cX0_work 78 = .ok (.iinc 4 (-1), 3) := by decide +kernel
theorem dX0_work_81 : decode cX0_work 81 = .ok (.aload_n 0, 1) := by decide +kernel
theorem dX0_work_82 : decode cX0_work 82 = .ok (.getfield 19, 3) := by decide +kernel
theorem dX0_work_85 : decode cX0_work 85 = .ok (.iload 4, 2) := by decide +kernel
theorem dX0_work_87 : decode cX0_work 87 = .ok (.iconst 1, 1) := by decide +kernel
theorem dX0_work_88 : decode cX0_work 88 = .ok (.isub, 1) := by decide +kernel
theorem dX0_work_89 : decode cX0_work 89 = .ok (.iload 6, 2) := by decide +kernel
theorem dX0_work_91 : decode cX0_work 91 = .ok (.ineg, 1) := by decide +kernel
theorem dX0_work_92 : decode cX0_work 92 = .ok (.aload_n 0, 1) := by decide +kernel
theorem dX0_work_93 : decode cX0_work 93 = .ok (.getfield 19, 3) := by decide +kernel
theorem dX0_work_96 : decode cX0_work 96 = .ok (.iload 4, 2) := by decide +kernel
theorem dX0_work_98 : decode cX0_work 98 = .ok (.iconst 1, 1) := by decide +kernel
theorem dX0_work_99 : decode cX0_work 99 = .ok (.isub, 1) := by decide +kernel
theorem dX0_work_100 : decode cX0_work 100 = .ok (.iaload, 1) := by decide +kernel
theorem dX0_work_101 : decode cX0_work 101 = .ok (.aload_n 0, 1) := by decide +kernel
theorem dX0_work_102 : decode cX0_work 102 = .ok (.getfield 19, 3) := by decide +kernel
theorem dX0_work_105 : decode cX0_work 105 = .ok (.iload 4, 2) := by decide +kernel
theorem dX0_work_107 : decode cX0_work 107 = .ok (.iaload, 1) := by decide +kernel
theorem dX0_work_108 : decode cX0_work 108 = .ok (.invokestatic 28, 3) := by decide +kernel
theorem dX0_work_111 : decode cX0_work 111 = .ok (.iastore, 1) := by decide +kernel
theorem dX0_work_112 : decode cX0_work 112 = .ok (.goto 55, 3) := by decide +kernel
theorem dX0_work_115 : decode cX0_work 115 = .ok (.iload 4, 2) := by decide +kernel
theorem dX0_work_117 : decode cX0_work 117 = .ok (.aload_n 0, 1) := by decide +kernel
theorem dX0_work_118 : decode cX0_work 118 = .ok (.getfield 19, 3) := by decide +kernel
theorem dX0_work_121 : decode cX0_work 121 = .ok (.arraylength, 1) := by decide +kernel
theorem dX0_work_122 : decode cX0_work 122 = .ok (.if_icmp .ge 45, 3) := by decide +kernel
theorem dX0_work_125 : decode cX0_work 125 = .ok (.aload_n 0, 1) := by decide +kernel
theorem dX0_work_126 : decode cX0_work 126 = .ok (.getfield 19, 3) := by decide +kernel
theorem dX0_work_129 : decode cX0_work 129 = .ok (.iload 4, 2) := by decide +kernel
theorem dX0_work_131 : decode cX0_work 131 = .ok (.iload 6, 2) := by decide +kernel
theorem dX0_work_133 : decode cX0_work 133 = .ok (.ifCond .lt 8, 3) := by decide +kernel
theorem dX0_work_136 : decode cX0_work 136 = .ok (.iload 6, 2) := by decide +kernel
theorem dX0_work_138 : decode cX0_work 138 = .ok (.goto 25, 3) := by decide +kernel
theorem dX0_work_141 : decode cX0_work 141 = .ok (.iload 6, 2) := by decide +kernel
theorem dX0_work_143 : decode cX0_work 143 = .ok (.iconst (-1), 1) := by decide +kernel
theorem dX0_work_144 : decode cX0_work 144 = .ok (.if_icmp .ne 7, 3) := by decide +kernel
theorem dX0_work_147 : decode cX0_work 147 = .ok (.iload_n 1, 1) := by decide +kernel
theorem dX0_work_148 : decode cX0_work 148 = .ok (.goto 15, 3) := by decide +kernel
theorem dX0_work_151 : decode cX0_work 151 = .ok (.iload 6, 2) := by decide +kernel
theorem dX0_work_153 : decode cX0_work 153 = .ok (.bipush (-2), 2) := by decide +kernel
theorem dX0_work_155 : decode cX0_work 155 = .ok (.if_icmp .ne 7, 3) := by decide +kernel
theorem dX0_work_158 : decode cX0_work 158 = .ok (.iload_n 2, 1) := by decide +kernel
theorem dX0_work_159 : decode cX0_work 159 = .ok (.goto 4, 3) := by decide +kernel
theorem dX0_work_162 : decode cX0_work 162 = .ok (.iload_n 3, 1) := by decide +kernel
theorem dX0_work_163 : decode cX0_work 163 = .ok (.iastore, 1) := by decide +kernel
theorem dX0_work_164 : decode cX0_work 164 = .ok (.iinc 4 1, 3) := by decide +kernel
theorem dX0_work_167 : decode cX0_work 167 = .ok (.iinc 5 1, 3) := by decide +kernel
theorem dX0_work_170 : decode cX0_work 170 = .ok (.goto (-164), 3) := by decide +kernel
theorem dX0_work_173 : decode cX0_work 173 = .ok (.aload_n 0, 1) := by decide +kernel
theorem dX0_work_174 : decode cX0_work 174 = .ok (.getfield 19, 3) := by decide +kernel
theorem dX0_work_177 : decode cX0_work 177 = .ok (.iconst 0, 1) := by decide +kernel
theorem dX0_work_178 : decode cX0_work 178 = .ok (.iaload, 1) := by decide +kernel
theorem dX0_work_179 : decode cX0_work 179 = .ok (.ireturn, 1) := by decide +kernel
theorem dX0_join_0 : decode cX0_join 0 = .ok (.iload_n 0, 1) := by decide +kernel
theorem dX0_join_1 : decode cX0_join 1 = .ok (.lookupswitch 188 #[(37, 176), (38, 105), (42, 160), (43, 152), (45, 156), (47, 164), (60, 119), (61, 130), (62, 141), (124, 91)], 91) := by decide +kernel
theorem dX0_join_92 : decode cX0_join 92 = .ok (.iload_n 1, 1) := by decide +kernel
theorem dX0_join_93 : decode cX0_join 93 = .ok (.ifCond .ne 7, 3) := by decide +kernel
theorem dX0_join_96 : decode cX0_join 96 = .ok (.iload_n 2, 1) := by decide +kernel
theorem dX0_join_97 : decode cX0_join 97 = .ok (.ifCond .eq 7, 3) := by decide +kernel
theorem dX0_join_100 : decode cX0_join 100 = .ok (.iconst 1, 1) := by decide +kernel
theorem dX0_join_101 : decode cX0_join 101 = .ok (.goto 4, 3) := by decide +kernel
theorem dX0_join_104 : decode cX0_join 104 = .ok (.iconst 0, 1) := by decide +kernel
theorem dX0_join_105 : decode cX0_join 105 = .ok (.ireturn, 1) := by decide +kernel
theorem dX0_join_106 : decode cX0_join 106 = .ok (.iload_n 1, 1) := by decide +kernel
theorem dX0_join_107 : decode cX0_join 107 = .ok (.ifCond .eq 11, 3) := by decide +kernel
theorem dX0_join_110 : decode cX0_join 110 = .ok (.iload_n 2, 1) := by decide +kernel
theorem dX0_join_111 : decode cX0_join 111 = .ok (.ifCond .eq 7, 3) := by decide +kernel
theorem dX0_join_114 : decode cX0_join 114 = .ok (.iconst 1, 1) := by decide +kernel
theorem dX0_join_115 : decode cX0_join 115 = .ok (.goto 4, 3) := by decide +kernel
theorem dX0_join_118 : decode cX0_join 118 = .ok (.iconst 0, 1) := by decide +kernel
theorem dX0_join_119 : decode cX0_join 119 = .ok (.ireturn, 1) := by decide +kernel
theorem dX0_join_120 : decode cX0_join 120 = .ok (.iload_n 1, 1) := by decide +kernel
theorem dX0_join_121 : decode cX0_join 121 = .ok (.iload_n 2, 1) := by decide +kernel
theorem dX0_join_122 : decode cX0_join 122 = .ok (.if_icmp .ge 7, 3) := by decide +kernel
theorem dX0_join_125 : decode cX0_join 125 = .ok (.iconst 1, 1) := by decide +kernel
theorem dX0_join_126 : decode cX0_join 126 = .ok (.goto 4, 3) := by decide +kernel
theorem dX0_join_129 : decode cX0_join 129 = .ok (.iconst 0, 1) := by decide +kernel
theorem dX0_join_130 : decode cX0_join 130 = .ok (.ireturn, 1) := by decide +kernel
theorem dX0_join_131 : decode cX0_join 131 = .ok (.iload_n 1, 1) := by decide +kernel
theorem dX0_join_132 : decode cX0_join 132 = .ok (.iload_n 2, 1) := by decide +kernel
theorem dX0_join_133 : decode cX0_join 133 = .ok (.if_icmp .ne 7, 3) := by decide +kernel
theorem dX0_join_136 : decode cX0_join 136 = .ok (.iconst 1, 1) := by decide +kernel
theorem dX0_join_137 : decode cX0_join 137 = .ok (.goto 4, 3) := by decide +kernel
theorem dX0_join_140 : decode cX0_join 140 = .ok (.iconst 0, 1) := by decide +kernel
theorem dX0_join_141 : decode cX0_join 141 = .ok (.ireturn, 1) := by decide +kernel
theorem dX0_join_142 : decode cX0_join 142 = .ok (.iload_n 1, 1) := by decide +kernel
theorem dX0_join_143 : decode cX0_join 143 = .ok (.iload_n 2, 1) := by decide +kernel
theorem dX0_join_144 : decode cX0_join 144 = .ok (.if_icmp .le 7, 3) := by decide +kernel
theorem dX0_join_147 : decode cX0_join 147 = .ok (.iconst 1, 1) := by decide +kernel
theorem dX0_join_148 : decode cX0_join 148 = .ok (.goto 4, 3) := by decide +kernel
theorem dX0_join_151 : decode cX0_join 151 = .ok (.iconst 0, 1) := by decide +kernel
theorem dX0_join_152 : decode cX0_join 152 = .ok (.ireturn, 1) := by decide +kernel
theorem dX0_join_153 : decode cX0_join 153 = .ok (.iload_n 1, 1) := by decide +kernel
theorem dX0_join_154 : decode cX0_join 154 = .ok (.iload_n 2, 1) := by decide +kernel
theorem dX0_join_155 : decode cX0_join 155 = .ok (.iadd, 1) := by decide +kernel
theorem dX0_join_156 : decode cX0_join 156 = .ok (.ireturn, 1) := by decide +kernel
theorem dX0_join_157 : decode cX0_join 157 = .ok (.iload_n 1, 1) := by decide +kernel
theorem dX0_join_158 : decode cX0_join 158 = .ok (.iload_n 2, 1) := by decide +kernel
theorem dX0_join_159 : decode cX0_join 159 = .ok (.isub, 1) := by decide +kernel
theorem dX0_join_160 : decode cX0_join 160 = .ok (.ireturn, 1) := by decide +kernel
theorem dX0_join_161 : decode cX0_join 161 = .ok (.iload_n 1, 1) := by decide +kernel
theorem dX0_join_162 : decode cX0_join 162 = .ok (.iload_n 2, 1) := by decide +kernel
theorem dX0_join_163 : decode cX0_join 163 = .ok (.imul, 1) := by decide +kernel
theorem dX0_join_164 : decode cX0_join 164 = .ok (.ireturn, 1) := by decide +kernel
theorem dX0_join_165 : decode cX0_join 165 = .ok (.iload_n 2, 1) := by decide +kernel
theorem dX0_join_166 : decode cX0_join 166 = .ok (.ifCond .ne 7, 3) := by decide +kernel
theorem dX0_join_169 : decode cX0_join 169 = .ok (.iconst 0, 1) := by decide +kernel
theorem dX0_join_170 : decode cX0_join 170 = .ok (.goto 6, 3) := by decide +kernel
theorem dX0_join_173 : decode cX0_join 173 = .ok (.iload_n 1, 1) := by decide +kernel
theorem dX0_join_174 : decode cX0_join 174 = .ok (.iload_n 2, 1) := by decide +kernel
theorem dX0_join_175 : decode cX0_join 175 = .ok (.idiv, 1) := by decide +kernel
theorem dX0_join_176 : decode cX0_join 176 = .ok (.ireturn, 1) := by decide +kernel
theorem dX0_join_177 : decode cX0_join 177 = .ok (.iload_n 2, 1) := by decide +kernel
theorem dX0_join_178 : decode cX0_join 178 = .ok (.ifCond .ne 7, 3) := by decide +kernel
theorem dX0_join_181 : decode cX0_join 181 = .ok (.iconst 0, 1) := by decide +kernel
theorem dX0_join_182 : decode cX0_join 182 = .ok (.goto 6, 3) := by decide +kernel
theorem dX0_join_185 : decode cX0_join 185 = .ok (.iload_n 1, 1) := by decide +kernel
theorem dX0_join_186 : decode cX0_join 186 = .ok (.iload_n 2, 1) := by decide +kernel
theorem dX0_join_187 : decode cX0_join 187 = .ok (.irem, 1) := by decide +kernel
theorem dX0_join_188 : decode cX0_join 188 = .ok (.ireturn, 1) := by decide +kernel
theorem dX0_join_189 : decode cX0_join 189 = .ok (.iconst 0, 1) := by decide +kernel
theorem dX0_join_190 : decode cX0_join 190 = .ok (.ireturn, 1) := by decide +kernel
set_option maxRecDepth 20000 in
theorem ggX1_init_X0_init : GoodIn wsX1_init wsX0_init := goodIn_r _ [14, 15, 2, 3, 8, 16, 17, 18, 19, 20, 21] (by decide +kernel) (by decide +kernel)
set_option maxRecDepth 20000 in
theorem gX1_init_X0_init_n11 : GoodIn wsX1_init (wsX0_init) := ggX1_init_X0_init
theorem dX1_init_0 : decode cX1_init 0 = .ok (.aload_n 0, 1) := by decide +kernel
theorem dX1_init_1 : decode cX1_init 1 = .ok (.invokespecial 3, 3) := by decide +kernel
theorem dX1_init_4 : decode cX1_init 4 = .ok (.aload_n 0, 1) := by decide +kernel
theorem dX1_init_5 : decode cX1_init 5 = .ok (.new 9, 3) := by decide +kernel
theorem dX1_init_8 : decode cX1_init 8 = .ok (.dup, 1) := by decide +kernel
theorem dX1_init_9 : decode cX1_init 9 = .ok (.invokespecial 11, 3) := by decide +kernel
theorem dX1_init_12 : decode cX1_init 12 = .ok (.putfield 12, 3) := by decide +kernel
theorem dX1_init_15 : decode cX1_init 15 = .ok (.aload_n 0, 1) := by decide +kernel
theorem dX1_init_16 : decode cX1_init 16 = .ok (.bipush 60, 2) := by decide +kernel
theorem dX1_init_18 : decode cX1_init 18 = .ok (.newarray .int, 2) := by decide +kernel
theorem dX1_init_20 : decode cX1_init 20 = .ok (.putfield 18, 3) := by decide +kernel
theorem dX1_init_23 : decode cX1_init 23 = .ok (.aload_n 0, 1) := by decide +kernel
theorem dX1_init_24 : decode cX1_init 24 = .ok (.iconst 0, 1) := by decide +kernel
theorem dX1_init_25 : decode cX1_init 25 = .ok (.putfield 22, 3) := by decide +kernel
theorem dX1_init_28 : decode cX1_init 28 = .ok (.aload_n 0, 1) := by decide +kernel
theorem dX1_init_29 : decode cX1_init 29 = .ok (.ldc 26, 2) := by decide +kernel
theorem dX1_init_31 : decode cX1_init 31 = .ok (.putfield 28, 3) := by decide +kernel
theorem dX1_init_34 : decode cX1_init 34 = .ok (.aload_n 0, 1) := by decide +kernel
theorem dX1_init_35 : decode cX1_init 35 = .ok (.iconst 0, 1) := by decide +kernel
theorem dX1_init_36 : decode cX1_init 36 = .ok (.putfield 32, 3) := by decide +kernel
theorem dX1_init_39 : decode cX1_init 39 = .ok (.return_, 1) := by decide +kernel
set_option maxRecDepth 20000 in
theorem ggX1_reads_X0_clear : GoodIn wsX1_reads wsX0_clear := goodIn_r _ [17, 18, 145, 146, 147] (by decide +kernel) (by decide +kernel)
set_option maxRecDepth 20000 in
theorem gX1_reads_X0_clear_n47 : GoodIn wsX1_reads (wsX0_clear) := ggX1_reads_X0_clear
set_option maxRecDepth 20000 in
theorem ggX1_reads_X1_readLevel : GoodIn wsX1_reads wsX1_readLevel := goodIn_r _ [23, 12, 5, 6, 13, 24, 25, 26, 22, 27, 28, 29, 30, 15, 31, 32, 18, 33, 34, 35, 36, 37, 38, 19, 20, 21, 39, 11, 40, 41, 42, 43, 44, 45, 46, 47, 48, 49, 50, 51, 52, 53, 54, 55, 56, 57, 58, 59, 60, 61, 62, 63, 64, 65, 66, 67, 68, 69, 70, 71, 72, 73, 74, 75, 76, 3, 77, 78, 2, 4, 79, 80, 81, 82, 83, 84, 85, 86, 87, 88, 89, 90, 91, 92, 93, 94, 95, 96, 97, 98, 99, 100, 101, 102, 103, 104, 105, 106, 107, 108, 109, 110, 111, 112, 113, 114, 115, 116, 117, 118, 119, 120, 121, 122, 123, 124, 125, 126, 127, 128, 129, 130, 131, 132, 133, 134, 135, 136, 137, 138, 139, 140, 141, 142, 143, 144, 145, 146, 147] (by decide +kernel) (by decide +kernel)
set_option maxRecDepth 20000 in
theorem gX1_reads_X1_readLevel : GoodIn wsX1_reads (wsV RX1 50 RX1 yX1_readLevel wsX1_readLevel) := goodIn_app (goodIn_of _ (by decide +kernel)) ggX1_reads_X1_readLevel
theorem dX1_reads_0 : decode cX1_reads 0 = .ok (.aload_n 0, 1) := by decide +kernel
theorem dX1_reads_1 : decode cX1_reads 1 = .ok (.iload_n 2, 1) := by decide +kernel
theorem dX1_reads_2 : decode cX1_reads 2 = .ok (.aload_n 1, 1) := by decide +kernel
theorem dX1_reads_3 : decode cX1_reads 3 = .ok (.arraylength, 1) := by decide +kernel
theorem dX1_reads_4 : decode cX1_reads 4 = .ok (.bipush 60, 2) := by decide +kernel
theorem dX1_reads_6 : decode cX1_reads 6 = .ok (.invokestatic 35, 3) := by decide +kernel
theorem dX1_reads_9 : decode cX1_reads 9 = .ok (.invokestatic 35, 3) := by decide +kernel
theorem dX1_reads_12 : decode cX1_reads 12 = .ok (.putfield 22, 3) := by decide +kernel
theorem dX1_reads_15 : decode cX1_reads 15 = .ok (.aload_n 1, 1) := by decide +kernel
theorem dX1_reads_16 : decode cX1_reads 16 = .ok (.iconst 0, 1) := by decide +kernel
theorem dX1_reads_17 : decode cX1_reads 17 = .ok (.aload_n 0, 1) := by decide +kernel
theorem dX1_reads_18 : decode cX1_reads 18 = .ok (.getfield 18, 3) := by decide +kernel
theorem dX1_reads_21 : decode cX1_reads 21 = .ok (.iconst 0, 1) := by decide +kernel
theorem dX1_reads_22 : decode cX1_reads 22 = .ok (.aload_n 0, 1) := by decide +kernel
theorem dX1_reads_23 : decode cX1_reads 23 = .ok (.getfield 22, 3) := by decide +kernel
theorem dX1_reads_26 : decode cX1_reads 26 = .ok (.invokestatic 41, 3) := by decide +kernel
theorem dX1_reads_29 : decode cX1_reads 29 = .ok (.aload_n 0, 1) := by decide +kernel
theorem dX1_reads_30 : decode cX1_reads 30 = .ok (.aload_n 3, 1) := by decide +kernel
theorem dX1_reads_31 : decode cX1_reads 31 = .ok (.putfield 28, 3) := by decide +kernel
theorem dX1_reads_34 : decode cX1_reads 34 = .ok (.aload_n 0, 1) := by decide +kernel
theorem dX1_reads_35 : decode cX1_reads 35 = .ok (.iconst 0, 1) := by decide +kernel
theorem dX1_reads_36 : decode cX1_reads 36 = .ok (.putfield 32, 3) := by decide +kernel
theorem dX1_reads_39 : decode cX1_reads 39 = .ok (.aload_n 0, 1) := by decide +kernel
theorem dX1_reads_40 : decode cX1_reads 40 = .ok (.getfield 12, 3) := by decide +kernel
theorem dX1_reads_43 : decode cX1_reads 43 = .ok (.invokevirtual 47, 3) := by decide +kernel
theorem dX1_reads_46 : decode cX1_reads 46 = .ok (.aload_n 0, 1) := by decide +kernel
theorem dX1_reads_47 : decode cX1_reads 47 = .ok (.iconst 0, 1) := by decide +kernel
theorem dX1_reads_48 : decode cX1_reads 48 = .ok (.iconst 0, 1) := by decide +kernel
theorem dX1_reads_49 : decode cX1_reads 49 = .ok (.invokevirtual 50, 3) := by decide +kernel
theorem dX1_reads_52 : decode cX1_reads 52 = .ok (.ifCond .eq 18, 3) := by decide +kernel
theorem dX1_reads_55 : decode cX1_reads 55 = .ok (.aload_n 0, 1) := by decide +kernel
theorem dX1_reads_56 : decode cX1_reads 56 = .ok (.getfield 32, 3) := by decide +kernel
theorem dX1_reads_59 : decode cX1_reads 59 = .ok (.aload_n 0, 1) := by decide +kernel
theorem dX1_reads_60 : decode cX1_reads 60 = .ok (.getfield 22, 3) := by decide +kernel
theorem dX1_reads_63 : decode cX1_reads 63 = .ok (.if_icmp .ne 7, 3) := by decide +kernel
theorem dX1_reads_66 : decode cX1_reads 66 = .ok (.iconst 1, 1) := by decide +kernel
theorem dX1_reads_67 : decode cX1_reads 67 = .ok (.goto 4, 3) := by decide +kernel
theorem dX1_reads_70 : decode cX1_reads 70 = .ok (.iconst 0, 1) := by decide +kernel
theorem dX1_reads_71 : decode cX1_reads 71 = .ok (.ireturn, 1) := by decide +kernel
set_option maxRecDepth 20000 in
theorem ggX1_readLevel_X1_readPart : GoodIn wsX1_readLevel wsX1_readPart := goodIn_r _ [22, 23, 24, 25, 8, 19, 20, 21, 0, 1, 2, 3, 4, 5, 6, 7, 9, 10, 11, 12, 13, 14, 15, 16, 17, 18, 26, 27, 28, 29, 30, 31, 32, 33, 34, 35, 36, 37, 38, 39, 40, 41, 42, 43, 44, 45, 46, 47, 48, 49, 50, 51, 52, 53, 54, 55, 56, 57, 58, 59, 60, 61, 62, 63, 64, 65, 66, 67, 68, 69, 70, 71, 72, 73, 74, 75, 76, 77, 78, 79, 80, 81, 82, 83, 84, 85, 86, 87, 88, 89, 90, 91, 92, 93, 94, 95, 96, 97, 98, 99, 100, 101, 102, 103, 104, 105, 106, 107, 108, 109, 110, 111, 112, 113, 114, 115, 116, 117, 118, 119, 120, 121, 122, 123, 124, 125, 126, 127, 128, 129, 130, 131, 132, 133, 134, 135, 136, 137, 138] (by decide +kernel) (by decide +kernel)
set_option maxRecDepth 20000 in
theorem gX1_readLevel_X1_readPart : GoodIn wsX1_readLevel (wsV RX1 54 RX1 yX1_readPart wsX1_readPart) := goodIn_app (goodIn_of _ (by decide +kernel)) ggX1_readLevel_X1_readPart
set_option maxRecDepth 20000 in
theorem ggX1_readLevel_X1_levelOf : GoodIn wsX1_readLevel wsX1_levelOf := goodIn_r _ [11] (by decide +kernel) (by decide +kernel)
set_option maxRecDepth 20000 in
theorem gX1_readLevel_X1_levelOf : GoodIn wsX1_readLevel (va_wsS RX1 57 yX1_levelOf wsX1_levelOf) := goodIn_app (goodIn_of _ (by decide +kernel)) ggX1_readLevel_X1_levelOf
set_option maxRecDepth 20000 in
theorem ggX1_readLevel_X0_add : GoodIn wsX1_readLevel wsX0_add := goodIn_r _ [15, 16, 17, 136, 137, 138] (by decide +kernel) (by decide +kernel)
set_option maxRecDepth 20000 in
theorem gX1_readLevel_X0_add_n61 : GoodIn wsX1_readLevel (wsX0_add) := ggX1_readLevel_X0_add
theorem dX1_readLevel_0 : decode cX1_readLevel 0 = .ok (.aload_n 0, 1) := by decide +kernel
theorem dX1_readLevel_1 : decode cX1_readLevel 1 = .ok (.iload_n 1, 1) := by decide +kernel
theorem dX1_readLevel_2 : decode cX1_readLevel 2 = .ok (.iload_n 2, 1) := by decide +kernel
theorem dX1_readLevel_3 : decode cX1_readLevel 3 = .ok (.invokevirtual 54, 3) := by decide +kernel
theorem dX1_readLevel_6 : decode cX1_readLevel 6 = .ok (.ifCond .ne 5, 3) := by decide +kernel
theorem dX1_readLevel_9 : decode cX1_readLevel 9 = .ok (.iconst 0, 1) := by decide +kernel
theorem dX1_readLevel_10 : decode cX1_readLevel 10 = .ok (.ireturn, 1) := by decide +kernel
theorem dX1_readLevel_11 : decode cX1_readLevel 11 = .ok (.iload_n 1, 1) := by decide +kernel
theorem dX1_readLevel_12 : decode cX1_readLevel 12 = .ok (.iconst 2, 1) := by decide +kernel
theorem dX1_readLevel_13 : decode cX1_readLevel 13 = .ok (.if_icmp .ne 7, 3) := by decide +kernel
theorem dX1_readLevel_16 : decode cX1_readLevel 16 = .ok (.iconst 1, 1) := by decide +kernel
theorem dX1_readLevel_17 : decode cX1_readLevel 17 = .ok (.goto 5, 3) := by decide +kernel
theorem dX1_readLevel_20 : decode cX1_readLevel 20 = .ok (.bipush 60, 2) := by decide +kernel
theorem dX1_readLevel_22 : decode cX1_readLevel 22 = .ok (.istore_n 3, 1) := by decide +kernel
theorem dX1_readLevel_23 : decode cX1_readLevel 23 = .ok (.iconst 0, 1) := by decide +kernel
theorem dX1_readLevel_24 : decode cX1_readLevel 24 = .ok (.istore 4, 2) := by decide +kernel
theorem dX1_readLevel_26 : decode cX1_readLevel 26 = .ok (.iload 4, 2) := by decide +kernel
theorem dX1_readLevel_28 : decode cX1_readLevel 28 = .ok (.iload_n 3, 1) := by decide +kernel
theorem dX1_readLevel_29 : decode cX1_readLevel 29 = .ok (.if_icmp .ge 78, 3) := by decide +kernel
theorem dX1_readLevel_32 : decode cX1_readLevel 32 = .ok (.aload_n 0, 1) := by decide +kernel
theorem dX1_readLevel_33 : decode cX1_readLevel 33 = .ok (.getfield 32, 3) := by decide +kernel
theorem dX1_readLevel_36 : decode cX1_readLevel 36 = .ok (.aload_n 0, 1) := by decide +kernel
theorem dX1_readLevel_37 : decode cX1_readLevel 37 = .ok (.getfield 22, 3) := by decide +kernel
theorem dX1_readLevel_40 : decode cX1_readLevel 40 = .ok (.if_icmp .ge 67, 3) := by decide +kernel
theorem dX1_readLevel_43 : decode cX1_readLevel 43 = .ok (.aload_n 0, 1) := by decide +kernel
theorem dX1_readLevel_44 : decode cX1_readLevel 44 = .ok (.getfield 18, 3) := by decide +kernel
theorem dX1_readLevel_47 : decode cX1_readLevel 47 = .ok (.aload_n 0, 1) := by decide +kernel
theorem dX1_readLevel_48 : decode cX1_readLevel 48 = .ok (.getfield 32, 3) := by decide +kernel
theorem dX1_readLevel_51 : decode cX1_readLevel 51 = .ok (.iaload, 1) := by decide +kernel
theorem dX1_readLevel_52 : decode cX1_readLevel 52 = .ok (.invokestatic 57, 3) := by decide +kernel
theorem dX1_readLevel_55 : decode cX1_readLevel 55 = .ok (.iload_n 1, 1) := by decide +kernel
theorem dX1_readLevel_56 : decode cX1_readLevel 56 = .ok (.if_icmp .ne 51, 3) := by decide +kernel
theorem dX1_readLevel_59 : decode cX1_readLevel 59 = .ok (.aload_n 0, 1) := by decide +kernel
theorem dX1_readLevel_60 : decode cX1_readLevel 60 = .ok (.getfield 18, 3) := by decide +kernel
theorem dX1_readLevel_63 : decode cX1_readLevel 63 = .ok (.aload_n 0, 1) := by decide +kernel
theorem dX1_readLevel_64 : decode cX1_readLevel 64 = .ok (.getfield 32, 3) := by decide +kernel
theorem dX1_readLevel_67 : decode cX1_readLevel 67 = .ok (.iaload, 1) := by decide +kernel
theorem dX1_readLevel_68 : decode cX1_readLevel 68 = .ok (.istore 5, 2) := by decide +kernel
theorem dX1_readLevel_70 : decode cX1_readLevel 70 = .ok (.aload_n 0, 1) := by decide +kernel
theorem dX1_readLevel_71 : decode cX1_readLevel 71 = .ok (.dup, 1) := by decide +kernel
theorem dX1_readLevel_72 : decode cX1_readLevel 72 = .ok (.getfield 32, 3) := by decide +kernel
theorem dX1_readLevel_75 : decode cX1_readLevel 75 = .ok (.iconst 1, 1) := by decide +kernel
theorem dX1_readLevel_76 : decode cX1_readLevel 76 = .ok (.iadd, 1) := by decide +kernel
theorem dX1_readLevel_77 : decode cX1_readLevel 77 = .ok (.putfield 32, 3) := by decide +kernel
theorem dX1_readLevel_80 : decode cX1_readLevel 80 = .ok (.aload_n 0, 1) := by decide +kernel
theorem dX1_readLevel_81 : decode cX1_readLevel 81 = .ok (.iload_n 1, 1) := by decide +kernel
theorem dX1_readLevel_82 : decode cX1_readLevel 82 = .ok (.iload_n 2, 1) := by decide +kernel
theorem dX1_readLevel_83 : decode cX1_readLevel 83 = .ok (.invokevirtual 54, 3) := by decide +kernel
theorem dX1_readLevel_86 : decode cX1_readLevel 86 = .ok (.ifCond .ne 5, 3) := by decide +kernel
theorem dX1_readLevel_89 : decode cX1_readLevel 89 = .ok (.iconst 0, 1) := by decide +kernel
theorem dX1_readLevel_90 : decode cX1_readLevel 90 = .ok (.ireturn, 1) := by decide +kernel
theorem dX1_readLevel_91 : decode cX1_readLevel 91 = .ok (.aload_n 0, 1) := by decide +kernel
theorem dX1_readLevel_92 : decode cX1_readLevel 92 = .ok (.getfield 12, 3) := by decide +kernel
theorem dX1_readLevel_95 : decode cX1_readLevel 95 = .ok (.iload 5, 2) := by decide +kernel
theorem dX1_readLevel_97 : decode cX1_readLevel 97 = .ok (.ineg, 1) := by decide +kernel
theorem dX1_readLevel_98 : decode cX1_readLevel 98 = .ok (.invokevirtual 61, 3) := by decide +kernel
theorem dX1_readLevel_101 : decode cX1_readLevel 101 = .ok (.iinc 4 1, 3) := by decide +kernel
theorem dX1_readLevel_104 : decode cX1_readLevel 104 = .ok (.goto (-78), 3) := by decide +kernel
theorem dX1_readLevel_107 : decode cX1_readLevel 107 = .ok (.iconst 1, 1) := by decide +kernel
theorem dX1_readLevel_108 : decode cX1_readLevel 108 = .ok (.ireturn, 1) := by decide +kernel
set_option maxRecDepth 20000 in
theorem ggX1_readPart_X1_readLevel : GoodIn wsX1_readPart wsX1_readLevel := goodIn_r _ [8, 9, 10, 11, 12, 13, 14, 15, 4, 16, 17, 18, 19, 20, 21, 22, 23, 24, 25, 5, 6, 7, 0, 1, 2, 3, 26, 27, 28, 29, 30, 31, 32, 33, 34, 35, 36, 37, 38, 39, 40, 41, 42, 43, 44, 45, 46, 47, 48, 49, 50, 51, 52, 53, 54, 55, 56, 57, 58, 59, 60, 61, 62, 63, 64, 65, 66, 67, 68, 69, 70, 71, 72, 73, 74, 75, 76, 77, 78, 79, 80, 81, 82, 83, 84, 85, 86, 87, 88, 89, 90, 91, 92, 93, 94, 95, 96, 97, 98, 99, 100, 101, 102, 103, 104, 105, 106, 107, 108, 109, 110, 111, 112, 113, 114, 115, 116, 117, 118, 119, 120, 121, 122, 123, 124, 125, 126, 127, 128, 129, 130, 131, 132, 133, 134, 135, 136, 137, 138] (by decide +kernel) (by decide +kernel)
set_option maxRecDepth 20000 in
theorem gX1_readPart_X1_readLevel : GoodIn wsX1_readPart (wsV RX1 50 RX1 yX1_readLevel wsX1_readLevel) := goodIn_app (goodIn_of _ (by decide +kernel)) ggX1_readPart_X1_readLevel
set_option maxRecDepth 20000 in
theorem ggX1_readPart_X1_readQ : GoodIn wsX1_readPart wsX1_readQ := goodIn_r _ [26, 9, 10, 11, 27, 12, 28, 29, 4, 30, 31, 32, 33, 34, 19, 20, 21, 22, 23, 24, 35, 36, 37, 38, 39, 40, 41, 42, 43, 44, 45, 46, 47, 48, 49, 50, 51, 52, 53, 54, 55, 56, 57, 58, 59, 60, 61, 62, 63, 64, 65, 66, 67, 68, 69, 70, 71, 72, 73, 74, 75, 76, 77, 78, 79, 80, 81, 82, 83, 84, 85, 86, 87, 88, 89, 90, 91, 92, 93, 94, 95, 96, 97, 98, 99, 100, 101, 102, 103, 104, 105, 106, 107, 108, 109, 110, 111, 112, 113, 114, 115, 116, 117, 118, 119, 120, 121, 122, 123, 124, 125, 126, 1, 2, 3, 127, 128, 129, 130, 8, 13, 14, 15, 16, 17, 18, 25, 5, 6, 7, 0, 131, 132, 133, 134, 135, 136, 137, 138] (by decide +kernel) (by decide +kernel)
set_option maxRecDepth 20000 in
theorem gX1_readPart_X1_readQ : GoodIn wsX1_readPart (wsV RX1 65 RX1 yX1_readQ wsX1_readQ) := goodIn_app (goodIn_of _ (by decide +kernel)) ggX1_readPart_X1_readQ
theorem dX1_readPart_0 : decode cX1_readPart 0 = .ok (.iload_n 1, 1) := by decide +kernel
theorem dX1_readPart_1 : decode cX1_readPart 1 = .ok (.iconst 1, 1) := by decide +kernel
theorem dX1_readPart_2 : decode cX1_readPart 2 = .ok (.iadd, 1) := by decide +kernel
theorem dX1_readPart_3 : decode cX1_readPart 3 = .ok (.iconst 5, 1) := by decide +kernel
theorem dX1_readPart_4 : decode cX1_readPart 4 = .ok (.if_icmp .ge 14, 3) := by decide +kernel
theorem dX1_readPart_7 : decode cX1_readPart 7 = .ok (.aload_n 0, 1) := by decide +kernel
theorem dX1_readPart_8 : decode cX1_readPart 8 = .ok (.iload_n 1, 1) := by decide +kernel
theorem dX1_readPart_9 : decode cX1_readPart 9 = .ok (.iconst 1, 1) := by decide +kernel
theorem dX1_readPart_10 : decode cX1_readPart 10 = .ok (.iadd, 1) := by decide +kernel
theorem dX1_readPart_11 : decode cX1_readPart 11 = .ok (.iload_n 2, 1) := by decide +kernel
theorem dX1_readPart_12 : decode cX1_readPart 12 = .ok (.invokevirtual 50, 3) := by decide +kernel
theorem dX1_readPart_15 : decode cX1_readPart 15 = .ok (.goto 8, 3) := by decide +kernel
theorem dX1_readPart_18 : decode cX1_readPart 18 = .ok (.aload_n 0, 1) := by decide +kernel
theorem dX1_readPart_19 : decode cX1_readPart 19 = .ok (.iload_n 2, 1) := by decide +kernel
theorem dX1_readPart_20 : decode cX1_readPart 20 = .ok (.invokevirtual 65, 3) := by decide +kernel
theorem dX1_readPart_23 : decode cX1_readPart 23 = .ok (.ireturn, 1) := by decide +kernel
set_option maxRecDepth 20000 in
theorem ggX1_readQ_X1_isDigit : GoodIn wsX1_readQ wsX1_isDigit := goodIn_r _ [9] (by decide +kernel) (by decide +kernel)
set_option maxRecDepth 20000 in
theorem gX1_readQ_X1_isDigit : GoodIn wsX1_readQ (va_wsS RX1 69 yX1_isDigit wsX1_isDigit) := goodIn_app (goodIn_of _ (by decide +kernel)) ggX1_readQ_X1_isDigit
set_option maxRecDepth 20000 in
theorem ggX1_readQ_X1_readNumber : GoodIn wsX1_readQ wsX1_readNumber := goodIn_r _ [13, 1, 2, 3, 5, 6, 7, 8, 9, 14, 15, 16, 17, 18, 19, 131, 132, 133, 134, 135, 136, 137, 138] (by decide +kernel) (by decide +kernel)
set_option maxRecDepth 20000 in
theorem gX1_readQ_X1_readNumber : GoodIn wsX1_readQ (wsV RX1 72 RX1 yX1_readNumber wsX1_readNumber) := goodIn_app (goodIn_of _ (by decide +kernel)) ggX1_readQ_X1_readNumber
set_option maxRecDepth 20000 in
theorem ggX1_readQ_J0_indexOf_0f7a4 : GoodIn wsX1_readQ wsJ0_indexOf_0f7a4 := goodIn_r _ [24, 25, 26, 27, 23, 28, 29, 30, 31, 32, 33, 34, 35, 36, 37, 38, 39, 40, 41, 42, 43, 44, 45, 46, 47, 48, 49, 50, 51, 52, 53, 54, 55, 56, 57, 58, 59, 60, 61, 62, 63, 64, 65, 66, 67, 68, 69, 70, 71, 72, 73, 74, 75, 76, 77, 78, 79, 80, 81, 82, 83, 84, 85, 86, 87, 88, 89, 90, 91, 92, 93, 94, 95, 96, 97, 98, 99, 100, 101, 102, 103, 104, 105, 106, 107, 108] (by decide +kernel) (by decide +kernel)
set_option maxRecDepth 20000 in
theorem gX1_readQ_J0_indexOf_0f7a4 : GoodIn wsX1_readQ (wsV RX1 75 RJ0 yJ0_indexOf_0f7a4 wsJ0_indexOf_0f7a4) := goodIn_app (goodIn_of _ (by decide +kernel)) ggX1_readQ_J0_indexOf_0f7a4
set_option maxRecDepth 20000 in
theorem ggX1_readQ_X0_add : GoodIn wsX1_readQ wsX0_add := goodIn_r _ [17, 18, 19, 136, 137, 138] (by decide +kernel) (by decide +kernel)
set_option maxRecDepth 20000 in
theorem gX1_readQ_X0_add_n61 : GoodIn wsX1_readQ (wsX0_add) := ggX1_readQ_X0_add
set_option maxRecDepth 20000 in
theorem ggX1_readQ_X1_readNot : GoodIn wsX1_readQ wsX1_readNot := goodIn_r _ [126, 5, 127, 128, 129, 8, 14, 15, 16, 17, 18, 19, 119, 1, 2, 3, 120, 121, 122, 123, 124, 125, 130, 112, 113, 114, 0, 4, 6, 7, 9, 10, 11, 12, 13, 20, 21, 22, 23, 24, 25, 26, 27, 28, 29, 30, 31, 32, 33, 34, 35, 36, 37, 38, 39, 40, 41, 42, 43, 44, 45, 46, 47, 48, 49, 50, 51, 52, 53, 54, 55, 56, 57, 58, 59, 60, 61, 62, 63, 64, 65, 66, 67, 68, 69, 70, 71, 72, 73, 74, 75, 76, 77, 78, 79, 80, 81, 82, 83, 84, 85, 86, 87, 88, 89, 90, 91, 92, 93, 94, 95, 96, 97, 98, 99, 100, 101, 102, 103, 104, 105, 106, 107, 108, 109, 110, 111, 115, 116, 117, 118, 131, 132, 133, 134, 135, 136, 137, 138] (by decide +kernel) (by decide +kernel)
set_option maxRecDepth 20000 in
theorem gX1_readQ_X1_readNot : GoodIn wsX1_readQ (wsV RX1 80 RX1 yX1_readNot wsX1_readNot) := goodIn_app (goodIn_of _ (by decide +kernel)) ggX1_readQ_X1_readNot
set_option maxRecDepth 20000 in
theorem ggX1_readQ_X1_readLevel : GoodIn wsX1_readQ wsX1_readLevel := goodIn_r _ [119, 1, 2, 3, 5, 120, 121, 122, 8, 123, 124, 125, 14, 15, 16, 17, 18, 19, 126, 127, 128, 129, 130, 112, 113, 114, 0, 4, 6, 7, 9, 10, 11, 12, 13, 20, 21, 22, 23, 24, 25, 26, 27, 28, 29, 30, 31, 32, 33, 34, 35, 36, 37, 38, 39, 40, 41, 42, 43, 44, 45, 46, 47, 48, 49, 50, 51, 52, 53, 54, 55, 56, 57, 58, 59, 60, 61, 62, 63, 64, 65, 66, 67, 68, 69, 70, 71, 72, 73, 74, 75, 76, 77, 78, 79, 80, 81, 82, 83, 84, 85, 86, 87, 88, 89, 90, 91, 92, 93, 94, 95, 96, 97, 98, 99, 100, 101, 102, 103, 104, 105, 106, 107, 108, 109, 110, 111, 115, 116, 117, 118, 131, 132, 133, 134, 135, 136, 137, 138] (by decide +kernel) (by decide +kernel)
set_option maxRecDepth 20000 in
theorem gX1_readQ_X1_readLevel : GoodIn wsX1_readQ (wsV RX1 50 RX1 yX1_readLevel wsX1_readLevel) := goodIn_app (goodIn_of _ (by decide +kernel)) ggX1_readQ_X1_readLevel
set_option maxRecDepth 20000 in
theorem ggX1_readQ_X1_readClose : GoodIn wsX1_readQ wsX1_readClose := goodIn_r _ [118, 1, 2, 3, 131, 132, 133, 134, 135] (by decide +kernel) (by decide +kernel)
set_option maxRecDepth 20000 in
theorem gX1_readQ_X1_readClose : GoodIn wsX1_readQ (wsV RX1 83 RX1 yX1_readClose wsX1_readClose) := goodIn_app (goodIn_of _ (by decide +kernel)) ggX1_readQ_X1_readClose
theorem dX1_readQ_0 : decode cX1_readQ 0 = .ok (.aload_n 0, 1) := by decide +kernel
theorem dX1_readQ_1 : decode cX1_readQ 1 = .ok (.getfield 32, 3) := by decide +kernel
theorem dX1_readQ_4 : decode cX1_readQ 4 = .ok (.aload_n 0, 1) := by decide +kernel
theorem dX1_readQ_5 : decode cX1_readQ 5 = .ok (.getfield 22, 3) := by decide +kernel
theorem dX1_readQ_8 : decode cX1_readQ 8 = .ok (.if_icmp .lt 5, 3) := by decide +kernel
theorem dX1_readQ_11 : decode cX1_readQ 11 = .ok (.iconst 0, 1) := by decide +kernel
theorem dX1_readQ_12 : decode cX1_readQ 12 = .ok (.ireturn, 1) := by decide +kernel
theorem dX1_readQ_13 : decode cX1_readQ 13 = .ok (.aload_n 0, 1) := by decide +kernel
theorem dX1_readQ_14 : decode cX1_readQ 14 = .ok (.getfield 18, 3) := by decide +kernel
theorem dX1_readQ_17 : decode cX1_readQ 17 = .ok (.aload_n 0, 1) := by decide +kernel
theorem dX1_readQ_18 : decode cX1_readQ 18 = .ok (.getfield 32, 3) := by decide +kernel
theorem dX1_readQ_21 : decode cX1_readQ 21 = .ok (.iaload, 1) := by decide +kernel
theorem dX1_readQ_22 : decode cX1_readQ 22 = .ok (.istore_n 2, 1) := by decide +kernel
theorem dX1_readQ_23 : decode cX1_readQ 23 = .ok (.iload_n 2, 1) := by decide +kernel
theorem dX1_readQ_24 : decode cX1_readQ 24 = .ok (.invokestatic 69, 3) := by decide +kernel
theorem dX1_readQ_27 : decode cX1_readQ 27 = .ok (.ifCond .eq 9, 3) := by decide +kernel
theorem dX1_readQ_30 : decode cX1_readQ 30 = .ok (.aload_n 0, 1) := by decide +kernel
theorem dX1_readQ_31 : decode cX1_readQ 31 = .ok (.invokevirtual 72, 3) := by decide +kernel
theorem dX1_readQ_34 : decode cX1_readQ 34 = .ok (.iconst 1, 1) := by decide +kernel
theorem dX1_readQ_35 : decode cX1_readQ 35 = .ok (.ireturn, 1) := by decide +kernel
theorem dX1_readQ_36 : decode cX1_readQ 36 = .ok (.aload_n 0, 1) := by decide +kernel
theorem dX1_readQ_37 : decode cX1_readQ 37 = .ok (.getfield 28, 3) := by decide +kernel
theorem dX1_readQ_40 : decode cX1_readQ 40 = .ok (.iload_n 2, 1) := by decide +kernel
theorem dX1_readQ_41 : decode cX1_readQ 41 = .ok (.i2c, 1) := by decide +kernel
theorem dX1_readQ_42 : decode cX1_readQ 42 = .ok (.invokevirtual 75, 3) := by decide +kernel
theorem dX1_readQ_45 : decode cX1_readQ 45 = .ok (.istore_n 3, 1) := by decide +kernel
theorem dX1_readQ_46 : decode cX1_readQ 46 = .ok (.iload_n 3, 1) := by decide +kernel
theorem dX1_readQ_47 : decode cX1_readQ 47 = .ok (.ifCond .lt 25, 3) := by decide +kernel
theorem dX1_readQ_50 : decode cX1_readQ 50 = .ok (.aload_n 0, 1) := by decide +kernel
theorem dX1_readQ_51 : decode cX1_readQ 51 = .ok (.dup, 1) := by decide +kernel
theorem dX1_readQ_52 : decode cX1_readQ 52 = .ok (.getfield 32, 3) := by decide +kernel
theorem dX1_readQ_55 : decode cX1_readQ 55 = .ok (.iconst 1, 1) := by decide +kernel
theorem dX1_readQ_56 : decode cX1_readQ 56 = .ok (.iadd, 1) := by decide +kernel
theorem dX1_readQ_57 : decode cX1_readQ 57 = .ok (.putfield 32, 3) := by decide +kernel
theorem dX1_readQ_60 : decode cX1_readQ 60 = .ok (.aload_n 0, 1) := by decide +kernel
theorem dX1_readQ_61 : decode cX1_readQ 61 = .ok (.getfield 12, 3) := by decide +kernel
theorem dX1_readQ_64 : decode cX1_readQ 64 = .ok (.iconst (-1), 1) := by decide +kernel
theorem dX1_readQ_65 : decode cX1_readQ 65 = .ok (.iload_n 3, 1) := by decide +kernel
theorem dX1_readQ_66 : decode cX1_readQ 66 = .ok (.isub, 1) := by decide +kernel
theorem dX1_readQ_67 : decode cX1_readQ 67 = .ok (.invokevirtual 61, 3) := by decide +kernel
theorem dX1_readQ_70 : decode cX1_readQ 70 = .ok (.iconst 1, 1) := by decide +kernel
theorem dX1_readQ_71 : decode cX1_readQ 71 = .ok (.ireturn, 1) := by decide +kernel
theorem dX1_readQ_72 : decode cX1_readQ 72 = .ok (.iload_n 2, 1) := by decide +kernel
theorem dX1_readQ_73 : decode cX1_readQ 73 = .ok (.bipush 33, 2) := by decide +kernel
theorem dX1_readQ_75 : decode cX1_readQ 75 = .ok (.if_icmp .eq 9, 3) := by decide +kernel
theorem dX1_readQ_78 : decode cX1_readQ 78 = .ok (.iload_n 2, 1) := by decide +kernel
theorem dX1_readQ_79 : decode cX1_readQ 79 = .ok (.bipush 40, 2) := by decide +kernel
theorem dX1_readQ_81 : decode cX1_readQ 81 = .ok (.if_icmp .ne 8, 3) := by decide +kernel
theorem dX1_readQ_84 : decode cX1_readQ 84 = .ok (.iload_n 1, 1) := by decide +kernel
theorem dX1_readQ_85 : decode cX1_readQ 85 = .ok (.iconst 5, 1) := by decide +kernel
theorem dX1_readQ_86 : decode cX1_readQ 86 = .ok (.if_icmp .lt 5, 3) := by decide +kernel
theorem dX1_readQ_89 : decode cX1_readQ 89 = .ok (.iconst 0, 1) := by decide +kernel
theorem dX1_readQ_90 : decode cX1_readQ 90 = .ok (.ireturn, 1) := by decide +kernel
theorem dX1_readQ_91 : decode cX1_readQ 91 = .ok (.aload_n 0, 1) := by decide +kernel
theorem dX1_readQ_92 : decode cX1_readQ 92 = .ok (.dup, 1) := by decide +kernel
theorem dX1_readQ_93 : decode cX1_readQ 93 = .ok (.getfield 32, 3) := by decide +kernel
theorem dX1_readQ_96 : decode cX1_readQ 96 = .ok (.iconst 1, 1) := by decide +kernel
theorem dX1_readQ_97 : decode cX1_readQ 97 = .ok (.iadd, 1) := by decide +kernel
theorem dX1_readQ_98 : decode cX1_readQ 98 = .ok (.putfield 32, 3) := by decide +kernel
theorem dX1_readQ_101 : decode cX1_readQ 101 = .ok (.iload_n 2, 1) := by decide +kernel
theorem dX1_readQ_102 : decode cX1_readQ 102 = .ok (.bipush 33, 2) := by decide +kernel
theorem dX1_readQ_104 : decode cX1_readQ 104 = .ok (.if_icmp .ne 13, 3) := by decide +kernel
theorem dX1_readQ_107 : decode cX1_readQ 107 = .ok (.aload_n 0, 1) := by decide +kernel
theorem dX1_readQ_108 : decode cX1_readQ 108 = .ok (.iload_n 1, 1) := by decide +kernel
theorem dX1_readQ_109 : decode cX1_readQ 109 = .ok (.iconst 1, 1) := by decide +kernel
theorem dX1_readQ_110 : decode cX1_readQ 110 = .ok (.iadd, 1) := by decide +kernel
theorem dX1_readQ_111 : decode cX1_readQ 111 = .ok (.invokevirtual 80, 3) := by decide +kernel
theorem dX1_readQ_114 : decode cX1_readQ 114 = .ok (.goto 26, 3) := by decide +kernel
theorem dX1_readQ_117 : decode cX1_readQ 117 = .ok (.aload_n 0, 1) := by decide +kernel
theorem dX1_readQ_118 : decode cX1_readQ 118 = .ok (.iconst 0, 1) := by decide +kernel
theorem dX1_readQ_119 : decode cX1_readQ 119 = .ok (.iload_n 1, 1) := by decide +kernel
theorem dX1_readQ_120 : decode cX1_readQ 120 = .ok (.iconst 1, 1) := by decide +kernel
theorem dX1_readQ_121 : decode cX1_readQ 121 = .ok (.iadd, 1) := by decide +kernel
theorem dX1_readQ_122 : decode cX1_readQ 122 = .ok (.invokevirtual 50, 3) := by decide +kernel
theorem dX1_readQ_125 : decode cX1_readQ 125 = .ok (.ifCond .eq 14, 3) := by decide +kernel
theorem dX1_readQ_128 : decode cX1_readQ 128 = .ok (.aload_n 0, 1) := by decide +kernel
theorem dX1_readQ_129 : decode cX1_readQ 129 = .ok (.invokevirtual 83, 3) := by decide +kernel
theorem dX1_readQ_132 : decode cX1_readQ 132 = .ok (.ifCond .eq 7, 3) := by decide +kernel
theorem dX1_readQ_135 : decode cX1_readQ 135 = .ok (.iconst 1, 1) := by decide +kernel
theorem dX1_readQ_136 : decode cX1_readQ 136 = .ok (.goto 4, 3) := by decide +kernel
theorem dX1_readQ_139 : decode cX1_readQ 139 = .ok (.iconst 0, 1) := by decide +kernel
theorem dX1_readQ_140 : decode cX1_readQ 140 = .ok (.ireturn, 1) := by decide +kernel
set_option maxRecDepth 20000 in
theorem ggX1_readNumber_X1_isDigit : GoodIn wsX1_readNumber wsX1_isDigit := goodIn_r _ [8] (by decide +kernel) (by decide +kernel)
set_option maxRecDepth 20000 in
theorem gX1_readNumber_X1_isDigit : GoodIn wsX1_readNumber (va_wsS RX1 69 yX1_isDigit wsX1_isDigit) := goodIn_app (goodIn_of _ (by decide +kernel)) ggX1_readNumber_X1_isDigit
set_option maxRecDepth 20000 in
theorem ggX1_readNumber_X0_add : GoodIn wsX1_readNumber wsX0_add := goodIn_r _ [12, 13, 14, 20, 21, 22] (by decide +kernel) (by decide +kernel)
set_option maxRecDepth 20000 in
theorem gX1_readNumber_X0_add_n61 : GoodIn wsX1_readNumber (wsX0_add) := ggX1_readNumber_X0_add
theorem dX1_readNumber_0 : decode cX1_readNumber 0 = .ok (.iconst 0, 1) := by decide +kernel
theorem dX1_readNumber_1 : decode cX1_readNumber 1 = .ok (.istore_n 1, 1) := by decide +kernel
theorem dX1_readNumber_2 : decode cX1_readNumber 2 = .ok (.iconst 0, 1) := by decide +kernel
theorem dX1_readNumber_3 : decode cX1_readNumber 3 = .ok (.istore_n 2, 1) := by decide +kernel
theorem dX1_readNumber_4 : decode cX1_readNumber 4 = .ok (.iload_n 2, 1) := by decide +kernel
theorem dX1_readNumber_5 : decode cX1_readNumber 5 = .ok (.iconst 4, 1) := by decide +kernel
theorem dX1_readNumber_6 : decode cX1_readNumber 6 = .ok (.if_icmp .ge 63, 3) := by decide +kernel
theorem dX1_readNumber_9 : decode cX1_readNumber 9 = .ok (.aload_n 0, 1) := by decide +kernel
theorem dX1_readNumber_10 : decode cX1_readNumber 10 = .ok (.getfield 32, 3) := by decide +kernel
theorem dX1_readNumber_13 : decode cX1_readNumber 13 = .ok (.aload_n 0, 1) := by decide +kernel
theorem dX1_readNumber_14 : decode cX1_readNumber 14 = .ok (.getfield 22, 3) := by decide +kernel
theorem dX1_readNumber_17 : decode cX1_readNumber 17 = .ok (.if_icmp .ge 52, 3) := by decide +kernel
theorem dX1_readNumber_20 : decode cX1_readNumber 20 = .ok (.aload_n 0, 1) := by decide +kernel
theorem dX1_readNumber_21 : decode cX1_readNumber 21 = .ok (.getfield 18, 3) := by decide +kernel
theorem dX1_readNumber_24 : decode cX1_readNumber 24 = .ok (.aload_n 0, 1) := by decide +kernel
theorem dX1_readNumber_25 : decode cX1_readNumber 25 = .ok (.getfield 32, 3) := by decide +kernel
theorem dX1_readNumber_28 : decode cX1_readNumber 28 = .ok (.iaload, 1) := by decide +kernel
theorem dX1_readNumber_29 : decode cX1_readNumber 29 = .ok (.invokestatic 69, 3) := by decide +kernel
theorem dX1_readNumber_32 : decode cX1_readNumber 32 = .ok (.ifCond .eq 37, 3) := by decide +kernel
theorem dX1_readNumber_35 : decode cX1_readNumber 35 = .ok (.iload_n 1, 1) := by decide +kernel
theorem dX1_readNumber_36 : decode cX1_readNumber 36 = .ok (.bipush 10, 2) := by decide +kernel
theorem dX1_readNumber_38 : decode cX1_readNumber 38 = .ok (.imul, 1) := by decide +kernel
theorem dX1_readNumber_39 : decode cX1_readNumber 39 = .ok (.aload_n 0, 1) := by decide +kernel
theorem dX1_readNumber_40 : decode cX1_readNumber 40 = .ok (.getfield 18, 3) := by decide +kernel
theorem dX1_readNumber_43 : decode cX1_readNumber 43 = .ok (.aload_n 0, 1) := by decide +kernel
theorem dX1_readNumber_44 : decode cX1_readNumber 44 = .ok (.getfield 32, 3) := by decide +kernel
theorem dX1_readNumber_47 : decode cX1_readNumber 47 = .ok (.iaload, 1) := by decide +kernel
theorem dX1_readNumber_48 : decode cX1_readNumber 48 = .ok (.iadd, 1) := by decide +kernel
theorem dX1_readNumber_49 : decode cX1_readNumber 49 = .ok (.bipush 48, 2) := by decide +kernel
theorem dX1_readNumber_51 : decode cX1_readNumber 51 = .ok (.isub, 1) := by decide +kernel
theorem dX1_readNumber_52 : decode cX1_readNumber 52 = .ok (.istore_n 1, 1) := by decide +kernel
theorem dX1_readNumber_53 : decode cX1_readNumber 53 = .ok (.aload_n 0, 1) := by decide +kernel
theorem dX1_readNumber_54 : decode cX1_readNumber 54 = .ok (.dup, 1) := by decide +kernel
theorem dX1_readNumber_55 : decode cX1_readNumber 55 = .ok (.getfield 32, 3) := by decide +kernel
theorem dX1_readNumber_58 : decode cX1_readNumber 58 = .ok (.iconst 1, 1) := by decide +kernel
theorem dX1_readNumber_59 : decode cX1_readNumber 59 = .ok (.iadd, 1) := by decide +kernel
theorem dX1_readNumber_60 : decode cX1_readNumber 60 = .ok (.putfield 32, 3) := by decide +kernel
theorem dX1_readNumber_63 : decode cX1_readNumber 63 = .ok (.iinc 2 1, 3) := by decide +kernel
theorem dX1_readNumber_66 : decode cX1_readNumber 66 = .ok (.goto (-62), 3) := by decide +kernel
theorem dX1_readNumber_69 : decode cX1_readNumber 69 = .ok (.aload_n 0, 1) := by decide +kernel
theorem dX1_readNumber_70 : decode cX1_readNumber 70 = .ok (.getfield 12, 3) := by decide +kernel
theorem dX1_readNumber_73 : decode cX1_readNumber 73 = .ok (.iload_n 1, 1) := by decide +kernel
theorem dX1_readNumber_74 : decode cX1_readNumber 74 = .ok (.invokevirtual 61, 3) := by decide +kernel
theorem dX1_readNumber_77 : decode cX1_readNumber 77 = .ok (.return_, 1) := by decide +kernel
set_option maxRecDepth 20000 in
theorem ggX1_readNot_X1_readQ : GoodIn wsX1_readNot wsX1_readQ := goodIn_r _ [26, 13, 14, 15, 27, 1, 28, 29, 5, 30, 31, 32, 33, 34, 6, 7, 8, 9, 10, 11, 35, 36, 37, 38, 39, 40, 41, 42, 43, 44, 45, 46, 47, 48, 49, 50, 51, 52, 53, 54, 55, 56, 57, 58, 59, 60, 61, 62, 63, 64, 65, 66, 67, 68, 69, 70, 71, 72, 73, 74, 75, 76, 77, 78, 79, 80, 81, 82, 83, 84, 85, 86, 87, 88, 89, 90, 91, 92, 93, 94, 95, 96, 97, 98, 99, 100, 101, 102, 103, 104, 105, 106, 107, 108, 109, 110, 111, 112, 113, 114, 115, 116, 117, 118, 119, 120, 121, 122, 123, 124, 125, 126, 23, 24, 25, 127, 128, 129, 130, 12, 16, 17, 18, 19, 20, 21, 0, 2, 3, 4, 22, 131, 132, 133, 134, 135, 136, 137, 138] (by decide +kernel) (by decide +kernel)
set_option maxRecDepth 20000 in
theorem gX1_readNot_X1_readQ : GoodIn wsX1_readNot (wsV RX1 65 RX1 yX1_readQ wsX1_readQ) := goodIn_app (goodIn_of _ (by decide +kernel)) ggX1_readNot_X1_readQ
set_option maxRecDepth 20000 in
theorem ggX1_readNot_X0_add : GoodIn wsX1_readNot wsX0_add := goodIn_r _ [9, 10, 11, 136, 137, 138] (by decide +kernel) (by decide +kernel)
set_option maxRecDepth 20000 in
theorem gX1_readNot_X0_add_n61 : GoodIn wsX1_readNot (wsX0_add) := ggX1_readNot_X0_add
theorem dX1_readNot_0 : decode cX1_readNot 0 = .ok (.aload_n 0, 1) := by decide +kernel
theorem dX1_readNot_1 : decode cX1_readNot 1 = .ok (.iload_n 1, 1) := by decide +kernel
theorem dX1_readNot_2 : decode cX1_readNot 2 = .ok (.invokevirtual 65, 3) := by decide +kernel
theorem dX1_readNot_5 : decode cX1_readNot 5 = .ok (.ifCond .ne 5, 3) := by decide +kernel
theorem dX1_readNot_8 : decode cX1_readNot 8 = .ok (.iconst 0, 1) := by decide +kernel
theorem dX1_readNot_9 : decode cX1_readNot 9 = .ok (.ireturn, 1) := by decide +kernel
theorem dX1_readNot_10 : decode cX1_readNot 10 = .ok (.aload_n 0, 1) := by decide +kernel
theorem dX1_readNot_11 : decode cX1_readNot 11 = .ok (.getfield 12, 3) := by decide +kernel
theorem dX1_readNot_14 : decode cX1_readNot 14 = .ok (.bipush (-33), 2) := by decide +kernel
theorem dX1_readNot_16 : decode cX1_readNot 16 = .ok (.invokevirtual 61, 3) := by decide +kernel
theorem dX1_readNot_19 : decode cX1_readNot 19 = .ok (.iconst 1, 1) := by decide +kernel
theorem dX1_readNot_20 : decode cX1_readNot 20 = .ok (.ireturn, 1) := by decide +kernel
theorem dX1_readClose_0 : decode cX1_readClose 0 = .ok (.aload_n 0, 1) := by decide +kernel
theorem dX1_readClose_1 : decode cX1_readClose 1 = .ok (.getfield 32, 3) := by decide +kernel
theorem dX1_readClose_4 : decode cX1_readClose 4 = .ok (.aload_n 0, 1) := by decide +kernel
theorem dX1_readClose_5 : decode cX1_readClose 5 = .ok (.getfield 22, 3) := by decide +kernel
theorem dX1_readClose_8 : decode cX1_readClose 8 = .ok (.if_icmp .ge 17, 3) := by decide +kernel
theorem dX1_readClose_11 : decode cX1_readClose 11 = .ok (.aload_n 0, 1) := by decide +kernel
theorem dX1_readClose_12 : decode cX1_readClose 12 = .ok (.getfield 18, 3) := by decide +kernel
theorem dX1_readClose_15 : decode cX1_readClose 15 = .ok (.aload_n 0, 1) := by decide +kernel
theorem dX1_readClose_16 : decode cX1_readClose 16 = .ok (.getfield 32, 3) := by decide +kernel
theorem dX1_readClose_19 : decode cX1_readClose 19 = .ok (.iaload, 1) := by decide +kernel
theorem dX1_readClose_20 : decode cX1_readClose 20 = .ok (.bipush 41, 2) := by decide +kernel
theorem dX1_readClose_22 : decode cX1_readClose 22 = .ok (.if_icmp .eq 5, 3) := by decide +kernel
theorem dX1_readClose_25 : decode cX1_readClose 25 = .ok (.iconst 0, 1) := by decide +kernel
theorem dX1_readClose_26 : decode cX1_readClose 26 = .ok (.ireturn, 1) := by decide +kernel
theorem dX1_readClose_27 : decode cX1_readClose 27 = .ok (.aload_n 0, 1) := by decide +kernel
theorem dX1_readClose_28 : decode cX1_readClose 28 = .ok (.dup, 1) := by decide +kernel
theorem dX1_readClose_29 : decode cX1_readClose 29 = .ok (.getfield 32, 3) := by decide +kernel
theorem dX1_readClose_32 : decode cX1_readClose 32 = .ok (.iconst 1, 1) := by decide +kernel
theorem dX1_readClose_33 : decode cX1_readClose 33 = .ok (.iadd, 1) := by decide +kernel
theorem dX1_readClose_34 : decode cX1_readClose 34 = .ok (.putfield 32, 3) := by decide +kernel
theorem dX1_readClose_37 : decode cX1_readClose 37 = .ok (.iconst 1, 1) := by decide +kernel
theorem dX1_readClose_38 : decode cX1_readClose 38 = .ok (.ireturn, 1) := by decide +kernel
theorem dX1_isDigit_0 : decode cX1_isDigit 0 = .ok (.iload_n 0, 1) := by decide +kernel
theorem dX1_isDigit_1 : decode cX1_isDigit 1 = .ok (.bipush 48, 2) := by decide +kernel
theorem dX1_isDigit_3 : decode cX1_isDigit 3 = .ok (.if_icmp .lt 13, 3) := by decide +kernel
theorem dX1_isDigit_6 : decode cX1_isDigit 6 = .ok (.iload_n 0, 1) := by decide +kernel
theorem dX1_isDigit_7 : decode cX1_isDigit 7 = .ok (.bipush 57, 2) := by decide +kernel
theorem dX1_isDigit_9 : decode cX1_isDigit 9 = .ok (.if_icmp .gt 7, 3) := by decide +kernel
theorem dX1_isDigit_12 : decode cX1_isDigit 12 = .ok (.iconst 1, 1) := by decide +kernel
theorem dX1_isDigit_13 : decode cX1_isDigit 13 = .ok (.goto 4, 3) := by decide +kernel
theorem dX1_isDigit_16 : decode cX1_isDigit 16 = .ok (.iconst 0, 1) := by decide +kernel
theorem dX1_isDigit_17 : decode cX1_isDigit 17 = .ok (.ireturn, 1) := by decide +kernel
theorem dX1_levelOf_0 : decode cX1_levelOf 0 = .ok (.iload_n 0, 1) := by decide +kernel
theorem dX1_levelOf_1 : decode cX1_levelOf 1 = .ok (.lookupswitch 101 #[(37, 99), (38, 93), (42, 99), (43, 97), (45, 97), (47, 99), (60, 95), (61, 95), (62, 95), (124, 91)], 91) := by decide +kernel
theorem dX1_levelOf_92 : decode cX1_levelOf 92 = .ok (.iconst 0, 1) := by decide +kernel
theorem dX1_levelOf_93 : decode cX1_levelOf 93 = .ok (.ireturn, 1) := by decide +kernel
theorem dX1_levelOf_94 : decode cX1_levelOf 94 = .ok (.iconst 1, 1) := by decide +kernel
theorem dX1_levelOf_95 : decode cX1_levelOf 95 = .ok (.ireturn, 1) := by decide +kernel
theorem dX1_levelOf_96 : decode cX1_levelOf 96 = .ok (.iconst 2, 1) := by decide +kernel
theorem dX1_levelOf_97 : decode cX1_levelOf 97 = .ok (.ireturn, 1) := by decide +kernel
theorem dX1_levelOf_98 : decode cX1_levelOf 98 = .ok (.iconst 3, 1) := by decide +kernel
theorem dX1_levelOf_99 : decode cX1_levelOf 99 = .ok (.ireturn, 1) := by decide +kernel
theorem dX1_levelOf_100 : decode cX1_levelOf 100 = .ok (.iconst 4, 1) := by decide +kernel
theorem dX1_levelOf_101 : decode cX1_levelOf 101 = .ok (.ireturn, 1) := by decide +kernel
theorem dX1_levelOf_102 : decode cX1_levelOf 102 = .ok (.iconst 5, 1) := by decide +kernel
theorem dX1_levelOf_103 : decode cX1_levelOf 103 = .ok (.ireturn, 1) := by decide +kernel
theorem dX2_init_0 : decode cX2_init 0 = .ok (.aload_n 0, 1) := by decide +kernel
theorem dX2_init_1 : decode cX2_init 1 = .ok (.invokespecial 3, 3) := by decide +kernel
theorem dX2_init_4 : decode cX2_init 4 = .ok (.aload_n 0, 1) := by decide +kernel
theorem dX2_init_5 : decode cX2_init 5 = .ok (.iconst 4, 1) := by decide +kernel
theorem dX2_init_6 : decode cX2_init 6 = .ok (.bipush 24, 2) := by decide +kernel
theorem dX2_init_8 : decode cX2_init 8 = .ok (.multianewarray 9 2, 4) := by decide +kernel
theorem dX2_init_12 : decode cX2_init 12 = .ok (.putfield 11, 3) := by decide +kernel
theorem dX2_init_15 : decode cX2_init 15 = .ok (.aload_n 0, 1) := by decide +kernel
theorem dX2_init_16 : decode cX2_init 16 = .ok (.iconst 4, 1) := by decide +kernel
theorem dX2_init_17 : decode cX2_init 17 = .ok (.newarray .int, 2) := by decide +kernel
theorem dX2_init_19 : decode cX2_init 19 = .ok (.putfield 16, 3) := by decide +kernel
theorem dX2_init_22 : decode cX2_init 22 = .ok (.aload_n 0, 1) := by decide +kernel
theorem dX2_init_23 : decode cX2_init 23 = .ok (.iconst 4, 1) := by decide +kernel
theorem dX2_init_24 : decode cX2_init 24 = .ok (.newarray .int, 2) := by decide +kernel
theorem dX2_init_26 : decode cX2_init 26 = .ok (.putfield 20, 3) := by decide +kernel
theorem dX2_init_29 : decode cX2_init 29 = .ok (.return_, 1) := by decide +kernel
set_option maxRecDepth 20000 in
theorem ggX2_lay_J7_fill_53178 : GoodIn wsX2_lay wsJ7_fill_53178 := goodIn_r _ [7] (by decide +kernel) (by decide +kernel)
set_option maxRecDepth 20000 in
theorem gX2_lay_J7_fill_53178 : GoodIn wsX2_lay (va_wsS RX2 23 yJ7_fill_53178 wsJ7_fill_53178) := goodIn_app (goodIn_of _ (by decide +kernel)) ggX2_lay_J7_fill_53178
theorem dX2_lay_0 : decode cX2_lay 0 = .ok (.aload_n 0, 1) := by decide +kernel
theorem dX2_lay_1 : decode cX2_lay 1 = .ok (.getfield 16, 3) := by decide +kernel
theorem dX2_lay_4 : decode cX2_lay 4 = .ok (.iload_n 1, 1) := by decide +kernel
theorem dX2_lay_5 : decode cX2_lay 5 = .ok (.iload_n 2, 1) := by decide +kernel
theorem dX2_lay_6 : decode cX2_lay 6 = .ok (.iastore, 1) := by decide +kernel
theorem dX2_lay_7 : decode cX2_lay 7 = .ok (.aload_n 0, 1) := by decide +kernel
theorem dX2_lay_8 : decode cX2_lay 8 = .ok (.getfield 20, 3) := by decide +kernel
theorem dX2_lay_11 : decode cX2_lay 11 = .ok (.iload_n 1, 1) := by decide +kernel
theorem dX2_lay_12 : decode cX2_lay 12 = .ok (.iload_n 3, 1) := by decide +kernel
theorem dX2_lay_13 : decode cX2_lay 13 = .ok (.iastore, 1) := by decide +kernel
theorem dX2_lay_14 : decode cX2_lay 14 = .ok (.aload_n 0, 1) := by decide +kernel
theorem dX2_lay_15 : decode cX2_lay 15 = .ok (.getfield 11, 3) := by decide +kernel
theorem dX2_lay_18 : decode cX2_lay 18 = .ok (.iload_n 1, 1) := by decide +kernel
theorem dX2_lay_19 : decode cX2_lay 19 = .ok (.aaload, 1) := by decide +kernel
theorem dX2_lay_20 : decode cX2_lay 20 = .ok (.iconst 0, 1) := by decide +kernel
theorem dX2_lay_21 : decode cX2_lay 21 = .ok (.invokestatic 23, 3) := by decide +kernel
theorem dX2_lay_24 : decode cX2_lay 24 = .ok (.return_, 1) := by decide +kernel
theorem dX2_isMissing_0 : decode cX2_isMissing 0 = .ok (.aload_n 0, 1) := by decide +kernel
theorem dX2_isMissing_1 : decode cX2_isMissing 1 = .ok (.getfield 16, 3) := by decide +kernel
theorem dX2_isMissing_4 : decode cX2_isMissing 4 = .ok (.iload_n 1, 1) := by decide +kernel
theorem dX2_isMissing_5 : decode cX2_isMissing 5 = .ok (.iaload, 1) := by decide +kernel
theorem dX2_isMissing_6 : decode cX2_isMissing 6 = .ok (.ifCond .ne 7, 3) := by decide +kernel
theorem dX2_isMissing_9 : decode cX2_isMissing 9 = .ok (.iconst 1, 1) := by decide +kernel
theorem dX2_isMissing_10 : decode cX2_isMissing 10 = .ok (.goto 4, 3) := by decide +kernel
theorem dX2_isMissing_13 : decode cX2_isMissing 13 = .ok (.iconst 0, 1) := by decide +kernel
theorem dX2_isMissing_14 : decode cX2_isMissing 14 = .ok (.ireturn, 1) := by decide +kernel
theorem dX2_holds_0 : decode cX2_holds 0 = .ok (.iload_n 3, 1) := by decide +kernel
theorem dX2_holds_1 : decode cX2_holds 1 = .ok (.ifCond .lt 33, 3) := by decide +kernel
theorem dX2_holds_4 : decode cX2_holds 4 = .ok (.iload_n 2, 1) := by decide +kernel
theorem dX2_holds_5 : decode cX2_holds 5 = .ok (.ifCond .lt 29, 3) := by decide +kernel
theorem dX2_holds_8 : decode cX2_holds 8 = .ok (.iload_n 3, 1) := by decide +kernel
theorem dX2_holds_9 : decode cX2_holds 9 = .ok (.aload_n 0, 1) := by decide +kernel
theorem dX2_holds_10 : decode cX2_holds 10 = .ok (.getfield 20, 3) := by decide +kernel
theorem dX2_holds_13 : decode cX2_holds 13 = .ok (.iload_n 1, 1) := by decide +kernel
theorem dX2_holds_14 : decode cX2_holds 14 = .ok (.iaload, 1) := by decide +kernel
theorem dX2_holds_15 : decode cX2_holds 15 = .ok (.if_icmp .gt 19, 3) := by decide +kernel
theorem dX2_holds_18 : decode cX2_holds 18 = .ok (.iload_n 2, 1) := by decide +kernel
theorem dX2_holds_19 : decode cX2_holds 19 = .ok (.aload_n 0, 1) := by decide +kernel
theorem dX2_holds_20 : decode cX2_holds 20 = .ok (.getfield 20, 3) := by decide +kernel
theorem dX2_holds_23 : decode cX2_holds 23 = .ok (.iload_n 1, 1) := by decide +kernel
theorem dX2_holds_24 : decode cX2_holds 24 = .ok (.iaload, 1) := by decide +kernel
theorem dX2_holds_25 : decode cX2_holds 25 = .ok (.iload_n 3, 1) := by decide +kernel
theorem dX2_holds_26 : decode cX2_holds 26 = .ok (.isub, 1) := by decide +kernel
theorem dX2_holds_27 : decode cX2_holds 27 = .ok (.if_icmp .gt 7, 3) := by decide +kernel
theorem dX2_holds_30 : decode cX2_holds 30 = .ok (.iconst 1, 1) := by decide +kernel
theorem dX2_holds_31 : decode cX2_holds 31 = .ok (.goto 4, 3) := by decide +kernel
theorem dX2_holds_34 : decode cX2_holds 34 = .ok (.iconst 0, 1) := by decide +kernel
theorem dX2_holds_35 : decode cX2_holds 35 = .ok (.ireturn, 1) := by decide +kernel
set_option maxRecDepth 20000 in
theorem ggX3_init_X0_init : GoodIn wsX3_init wsX0_init := goodIn_r _ [23, 24, 2, 3, 4, 25, 26, 27, 55, 56, 57] (by decide +kernel) (by decide +kernel)
set_option maxRecDepth 20000 in
theorem gX3_init_X0_init_n36 : GoodIn wsX3_init (wsX0_init) := ggX3_init_X0_init
set_option maxRecDepth 20000 in
theorem ggX3_init_X3_lay : GoodIn wsX3_init wsX3_lay := goodIn_r _ [32, 33, 34, 5, 35, 36, 37, 38, 39, 40, 41, 42, 43, 44, 45, 46, 47, 48, 49, 50, 51, 52, 53, 54] (by decide +kernel) (by decide +kernel)
set_option maxRecDepth 20000 in
theorem gX3_init_X3_lay : GoodIn wsX3_init (wsV RX3 59 RX3 yX3_lay wsX3_lay) := goodIn_app (goodIn_of _ (by decide +kernel)) ggX3_init_X3_lay
theorem dX3_init_0 : decode cX3_init 0 = .ok (.aload_n 0, 1) := by decide +kernel
theorem dX3_init_1 : decode cX3_init 1 = .ok (.invokespecial 3, 3) := by decide +kernel
theorem dX3_init_4 : decode cX3_init 4 = .ok (.aload_n 0, 1) := by decide +kernel
theorem dX3_init_5 : decode cX3_init 5 = .ok (.bipush 14, 2) := by decide +kernel
theorem dX3_init_7 : decode cX3_init 7 = .ok (.newarray .int, 2) := by decide +kernel
theorem dX3_init_9 : decode cX3_init 9 = .ok (.putfield 9, 3) := by decide +kernel
theorem dX3_init_12 : decode cX3_init 12 = .ok (.aload_n 0, 1) := by decide +kernel
theorem dX3_init_13 : decode cX3_init 13 = .ok (.iconst 0, 1) := by decide +kernel
theorem dX3_init_14 : decode cX3_init 14 = .ok (.putfield 15, 3) := by decide +kernel
theorem dX3_init_17 : decode cX3_init 17 = .ok (.aload_n 0, 1) := by decide +kernel
theorem dX3_init_18 : decode cX3_init 18 = .ok (.iconst 0, 1) := by decide +kernel
theorem dX3_init_19 : decode cX3_init 19 = .ok (.putfield 19, 3) := by decide +kernel
theorem dX3_init_22 : decode cX3_init 22 = .ok (.aload_n 0, 1) := by decide +kernel
theorem dX3_init_23 : decode cX3_init 23 = .ok (.bipush 6, 2) := by decide +kernel
theorem dX3_init_25 : decode cX3_init 25 = .ok (.newarray .int, 2) := by decide +kernel
theorem dX3_init_27 : decode cX3_init 27 = .ok (.putfield 22, 3) := by decide +kernel
theorem dX3_init_30 : decode cX3_init 30 = .ok (.aload_n 0, 1) := by decide +kernel
theorem dX3_init_31 : decode cX3_init 31 = .ok (.bipush 6, 2) := by decide +kernel
theorem dX3_init_33 : decode cX3_init 33 = .ok (.newarray .int, 2) := by decide +kernel
theorem dX3_init_35 : decode cX3_init 35 = .ok (.putfield 25, 3) := by decide +kernel
theorem dX3_init_38 : decode cX3_init 38 = .ok (.aload_n 0, 1) := by decide +kernel
theorem dX3_init_39 : decode cX3_init 39 = .ok (.bipush 6, 2) := by decide +kernel
theorem dX3_init_41 : decode cX3_init 41 = .ok (.newarray .int, 2) := by decide +kernel
theorem dX3_init_43 : decode cX3_init 43 = .ok (.putfield 28, 3) := by decide +kernel
theorem dX3_init_46 : decode cX3_init 46 = .ok (.aload_n 0, 1) := by decide +kernel
theorem dX3_init_47 : decode cX3_init 47 = .ok (.bipush 6, 2) := by decide +kernel
theorem dX3_init_49 : decode cX3_init 49 = .ok (.newarray .int, 2) := by decide +kernel
theorem dX3_init_51 : decode cX3_init 51 = .ok (.putfield 31, 3) := by decide +kernel
theorem dX3_init_54 : decode cX3_init 54 = .ok (.aload_n 0, 1) := by decide +kernel
theorem dX3_init_55 : decode cX3_init 55 = .ok (.new 34, 3) := by decide +kernel
theorem dX3_init_58 : decode cX3_init 58 = .ok (.dup, 1) := by decide +kernel
theorem dX3_init_59 : decode cX3_init 59 = .ok (.invokespecial 36, 3) := by decide +kernel
theorem dX3_init_62 : decode cX3_init 62 = .ok (.putfield 37, 3) := by decide +kernel
theorem dX3_init_65 : decode cX3_init 65 = .ok (.aload_n 0, 1) := by decide +kernel
theorem dX3_init_66 : decode cX3_init 66 = .ok (.new 34, 3) := by decide +kernel
theorem dX3_init_69 : decode cX3_init 69 = .ok (.dup, 1) := by decide +kernel
theorem dX3_init_70 : decode cX3_init 70 = .ok (.invokespecial 36, 3) := by decide +kernel
theorem dX3_init_73 : decode cX3_init 73 = .ok (.putfield 41, 3) := by decide +kernel
theorem dX3_init_76 : decode cX3_init 76 = .ok (.aload_n 0, 1) := by decide +kernel
theorem dX3_init_77 : decode cX3_init 77 = .ok (.iconst 1, 1) := by decide +kernel
theorem dX3_init_78 : decode cX3_init 78 = .ok (.putfield 44, 3) := by decide +kernel
theorem dX3_init_81 : decode cX3_init 81 = .ok (.aload_n 0, 1) := by decide +kernel
theorem dX3_init_82 : decode cX3_init 82 = .ok (.bipush 60, 2) := by decide +kernel
theorem dX3_init_84 : decode cX3_init 84 = .ok (.newarray .int, 2) := by decide +kernel
theorem dX3_init_86 : decode cX3_init 86 = .ok (.putfield 47, 3) := by decide +kernel
theorem dX3_init_89 : decode cX3_init 89 = .ok (.aload_n 0, 1) := by decide +kernel
theorem dX3_init_90 : decode cX3_init 90 = .ok (.iconst 0, 1) := by decide +kernel
theorem dX3_init_91 : decode cX3_init 91 = .ok (.putfield 50, 3) := by decide +kernel
theorem dX3_init_94 : decode cX3_init 94 = .ok (.aload_n 0, 1) := by decide +kernel
theorem dX3_init_95 : decode cX3_init 95 = .ok (.bipush 24, 2) := by decide +kernel
theorem dX3_init_97 : decode cX3_init 97 = .ok (.newarray .int, 2) := by decide +kernel
theorem dX3_init_99 : decode cX3_init 99 = .ok (.putfield 53, 3) := by decide +kernel
theorem dX3_init_102 : decode cX3_init 102 = .ok (.aload_n 0, 1) := by decide +kernel
theorem dX3_init_103 : decode cX3_init 103 = .ok (.iconst 0, 1) := by decide +kernel
theorem dX3_init_104 : decode cX3_init 104 = .ok (.putfield 56, 3) := by decide +kernel
theorem dX3_init_107 : decode cX3_init 107 = .ok (.aload_n 0, 1) := by decide +kernel
theorem dX3_init_108 : decode cX3_init 108 = .ok (.bipush 8, 2) := by decide +kernel
theorem dX3_init_110 : decode cX3_init 110 = .ok (.invokevirtual 59, 3) := by decide +kernel
theorem dX3_init_113 : decode cX3_init 113 = .ok (.return_, 1) := by decide +kernel
set_option maxRecDepth 20000 in
theorem ggX3_lay_J7_fill_53178 : GoodIn wsX3_lay wsJ7_fill_53178 := goodIn_r _ [7] (by decide +kernel) (by decide +kernel)
set_option maxRecDepth 20000 in
theorem gX3_lay_J7_fill_53178 : GoodIn wsX3_lay (va_wsS RX3 69 yJ7_fill_53178 wsJ7_fill_53178) := goodIn_app (goodIn_of _ (by decide +kernel)) ggX3_lay_J7_fill_53178
theorem dX3_lay_0 : decode cX3_lay 0 = .ok (.aload_n 0, 1) := by decide +kernel
theorem dX3_lay_1 : decode cX3_lay 1 = .ok (.iload_n 1, 1) := by decide +kernel
theorem dX3_lay_2 : decode cX3_lay 2 = .ok (.putfield 63, 3) := by decide +kernel
theorem dX3_lay_5 : decode cX3_lay 5 = .ok (.aload_n 0, 1) := by decide +kernel
theorem dX3_lay_6 : decode cX3_lay 6 = .ok (.iconst (-1), 1) := by decide +kernel
theorem dX3_lay_7 : decode cX3_lay 7 = .ok (.putfield 66, 3) := by decide +kernel
theorem dX3_lay_10 : decode cX3_lay 10 = .ok (.aload_n 0, 1) := by decide +kernel
theorem dX3_lay_11 : decode cX3_lay 11 = .ok (.getfield 9, 3) := by decide +kernel
theorem dX3_lay_14 : decode cX3_lay 14 = .ok (.iconst 1, 1) := by decide +kernel
theorem dX3_lay_15 : decode cX3_lay 15 = .ok (.invokestatic 69, 3) := by decide +kernel
theorem dX3_lay_18 : decode cX3_lay 18 = .ok (.return_, 1) := by decide +kernel
theorem dX3_hasStep_0 : decode cX3_hasStep 0 = .ok (.iload_n 1, 1) := by decide +kernel
theorem dX3_hasStep_1 : decode cX3_hasStep 1 = .ok (.ifCond .lt 15, 3) := by decide +kernel
theorem dX3_hasStep_4 : decode cX3_hasStep 4 = .ok (.iload_n 1, 1) := by decide +kernel
theorem dX3_hasStep_5 : decode cX3_hasStep 5 = .ok (.aload_n 0, 1) := by decide +kernel
theorem dX3_hasStep_6 : decode cX3_hasStep 6 = .ok (.getfield 63, 3) := by decide +kernel
theorem dX3_hasStep_9 : decode cX3_hasStep 9 = .ok (.if_icmp .ge 7, 3) := by decide +kernel
theorem dX3_hasStep_12 : decode cX3_hasStep 12 = .ok (.iconst 1, 1) := by decide +kernel
theorem dX3_hasStep_13 : decode cX3_hasStep 13 = .ok (.goto 4, 3) := by decide +kernel
theorem dX3_hasStep_16 : decode cX3_hasStep 16 = .ok (.iconst 0, 1) := by decide +kernel
theorem dX3_hasStep_17 : decode cX3_hasStep 17 = .ok (.ireturn, 1) := by decide +kernel
theorem dX3_hasClimber_0 : decode cX3_hasClimber 0 = .ok (.iload_n 1, 1) := by decide +kernel
theorem dX3_hasClimber_1 : decode cX3_hasClimber 1 = .ok (.ifCond .lt 15, 3) := by decide +kernel
theorem dX3_hasClimber_4 : decode cX3_hasClimber 4 = .ok (.iload_n 1, 1) := by decide +kernel
theorem dX3_hasClimber_5 : decode cX3_hasClimber 5 = .ok (.aload_n 0, 1) := by decide +kernel
theorem dX3_hasClimber_6 : decode cX3_hasClimber 6 = .ok (.getfield 19, 3) := by decide +kernel
theorem dX3_hasClimber_9 : decode cX3_hasClimber 9 = .ok (.if_icmp .ge 7, 3) := by decide +kernel
theorem dX3_hasClimber_12 : decode cX3_hasClimber 12 = .ok (.iconst 1, 1) := by decide +kernel
theorem dX3_hasClimber_13 : decode cX3_hasClimber 13 = .ok (.goto 4, 3) := by decide +kernel
theorem dX3_hasClimber_16 : decode cX3_hasClimber 16 = .ok (.iconst 0, 1) := by decide +kernel
theorem dX3_hasClimber_17 : decode cX3_hasClimber 17 = .ok (.ireturn, 1) := by decide +kernel
theorem dX3_takeOn_0 : decode cX3_takeOn 0 = .ok (.aload_n 0, 1) := by decide +kernel
theorem dX3_takeOn_1 : decode cX3_takeOn 1 = .ok (.getfield 19, 3) := by decide +kernel
theorem dX3_takeOn_4 : decode cX3_takeOn 4 = .ok (.istore_n 3, 1) := by decide +kernel
theorem dX3_takeOn_5 : decode cX3_takeOn 5 = .ok (.aload_n 0, 1) := by decide +kernel
theorem dX3_takeOn_6 : decode cX3_takeOn 6 = .ok (.getfield 22, 3) := by decide +kernel
theorem dX3_takeOn_9 : decode cX3_takeOn 9 = .ok (.iload_n 3, 1) := by decide +kernel
theorem dX3_takeOn_10 : decode cX3_takeOn 10 = .ok (.iload_n 1, 1) := by decide +kernel
theorem dX3_takeOn_11 : decode cX3_takeOn 11 = .ok (.bipush 10, 2) := by decide +kernel
theorem dX3_takeOn_13 : decode cX3_takeOn 13 = .ok (.idiv, 1) := by decide +kernel
theorem dX3_takeOn_14 : decode cX3_takeOn 14 = .ok (.iastore, 1) := by decide +kernel
theorem dX3_takeOn_15 : decode cX3_takeOn 15 = .ok (.aload_n 0, 1) := by decide +kernel
theorem dX3_takeOn_16 : decode cX3_takeOn 16 = .ok (.getfield 25, 3) := by decide +kernel
theorem dX3_takeOn_19 : decode cX3_takeOn 19 = .ok (.iload_n 3, 1) := by decide +kernel
theorem dX3_takeOn_20 : decode cX3_takeOn 20 = .ok (.iload_n 1, 1) := by decide +kernel
theorem dX3_takeOn_21 : decode cX3_takeOn 21 = .ok (.bipush 10, 2) := by decide +kernel
theorem dX3_takeOn_23 : decode cX3_takeOn 23 = .ok (.irem, 1) := by decide +kernel
theorem dX3_takeOn_24 : decode cX3_takeOn 24 = .ok (.iastore, 1) := by decide +kernel
theorem dX3_takeOn_25 : decode cX3_takeOn 25 = .ok (.aload_n 0, 1) := by decide +kernel
theorem dX3_takeOn_26 : decode cX3_takeOn 26 = .ok (.getfield 28, 3) := by decide +kernel
theorem dX3_takeOn_29 : decode cX3_takeOn 29 = .ok (.iload_n 3, 1) := by decide +kernel
theorem dX3_takeOn_30 : decode cX3_takeOn 30 = .ok (.iload_n 2, 1) := by decide +kernel
theorem dX3_takeOn_31 : decode cX3_takeOn 31 = .ok (.iastore, 1) := by decide +kernel
theorem dX3_takeOn_32 : decode cX3_takeOn 32 = .ok (.aload_n 0, 1) := by decide +kernel
theorem dX3_takeOn_33 : decode cX3_takeOn 33 = .ok (.getfield 31, 3) := by decide +kernel
theorem dX3_takeOn_36 : decode cX3_takeOn 36 = .ok (.iload_n 3, 1) := by decide +kernel
theorem dX3_takeOn_37 : decode cX3_takeOn 37 = .ok (.iconst 0, 1) := by decide +kernel
theorem dX3_takeOn_38 : decode cX3_takeOn 38 = .ok (.iastore, 1) := by decide +kernel
theorem dX3_takeOn_39 : decode cX3_takeOn 39 = .ok (.aload_n 0, 1) := by decide +kernel
theorem dX3_takeOn_40 : decode cX3_takeOn 40 = .ok (.dup, 1) := by decide +kernel
theorem dX3_takeOn_41 : decode cX3_takeOn 41 = .ok (.getfield 19, 3) := by decide +kernel
theorem dX3_takeOn_44 : decode cX3_takeOn 44 = .ok (.iconst 1, 1) := by decide +kernel
theorem dX3_takeOn_45 : decode cX3_takeOn 45 = .ok (.iadd, 1) := by decide +kernel
theorem dX3_takeOn_46 : decode cX3_takeOn 46 = .ok (.putfield 19, 3) := by decide +kernel
theorem dX3_takeOn_49 : decode cX3_takeOn 49 = .ok (.iload_n 3, 1) := by decide +kernel
theorem dX3_takeOn_50 : decode cX3_takeOn 50 = .ok (.ireturn, 1) := by decide +kernel
theorem dX3_climbersAt_0 : decode cX3_climbersAt 0 = .ok (.iconst 0, 1) := by decide +kernel
theorem dX3_climbersAt_1 : decode cX3_climbersAt 1 = .ok (.istore_n 2, 1) := by decide +kernel
theorem dX3_climbersAt_2 : decode cX3_climbersAt 2 = .ok (.iconst 0, 1) := by decide +kernel
theorem dX3_climbersAt_3 : decode cX3_climbersAt 3 = .ok (.istore_n 3, 1) := by decide +kernel
theorem dX3_climbersAt_4 : decode cX3_climbersAt 4 = .ok (.iload_n 3, 1) := by decide +kernel
theorem dX3_climbersAt_5 : decode cX3_climbersAt 5 = .ok (.aload_n 0, 1) := by decide +kernel
theorem dX3_climbersAt_6 : decode cX3_climbersAt 6 = .ok (.getfield 19, 3) := by decide +kernel
theorem dX3_climbersAt_9 : decode cX3_climbersAt 9 = .ok (.if_icmp .ge 22, 3) := by decide +kernel
theorem dX3_climbersAt_12 : decode cX3_climbersAt 12 = .ok (.aload_n 0, 1) := by decide +kernel
theorem dX3_climbersAt_13 : decode cX3_climbersAt 13 = .ok (.getfield 28, 3) := by decide +kernel
theorem dX3_climbersAt_16 : decode cX3_climbersAt 16 = .ok (.iload_n 3, 1) := by decide +kernel
theorem dX3_climbersAt_17 : decode cX3_climbersAt 17 = .ok (.iaload, 1) := by decide +kernel
theorem dX3_climbersAt_18 : decode cX3_climbersAt 18 = .ok (.iload_n 1, 1) := by decide +kernel
theorem dX3_climbersAt_19 : decode cX3_climbersAt 19 = .ok (.if_icmp .ne 6, 3) := by decide +kernel
theorem dX3_climbersAt_22 : decode cX3_climbersAt 22 = .ok (.iinc 2 1, 3) := by decide +kernel
theorem dX3_climbersAt_25 : decode cX3_climbersAt 25 = .ok (.iinc 3 1, 3) := by decide +kernel
theorem dX3_climbersAt_28 : decode cX3_climbersAt 28 = .ok (.goto (-24), 3) := by decide +kernel
theorem dX3_climbersAt_31 : decode cX3_climbersAt 31 = .ok (.iload_n 2, 1) := by decide +kernel
theorem dX3_climbersAt_32 : decode cX3_climbersAt 32 = .ok (.ireturn, 1) := by decide +kernel
theorem dX3_pairs_0 : decode cX3_pairs 0 = .ok (.iconst 0, 1) := by decide +kernel
theorem dX3_pairs_1 : decode cX3_pairs 1 = .ok (.istore_n 1, 1) := by decide +kernel
theorem dX3_pairs_2 : decode cX3_pairs 2 = .ok (.iconst 0, 1) := by decide +kernel
theorem dX3_pairs_3 : decode cX3_pairs 3 = .ok (.istore_n 2, 1) := by decide +kernel
theorem dX3_pairs_4 : decode cX3_pairs 4 = .ok (.iload_n 2, 1) := by decide +kernel
theorem dX3_pairs_5 : decode cX3_pairs 5 = .ok (.aload_n 0, 1) := by decide +kernel
theorem dX3_pairs_6 : decode cX3_pairs 6 = .ok (.getfield 19, 3) := by decide +kernel
theorem dX3_pairs_9 : decode cX3_pairs 9 = .ok (.if_icmp .ge 45, 3) := by decide +kernel
theorem dX3_pairs_12 : decode cX3_pairs 12 = .ok (.iload_n 2, 1) := by decide +kernel
theorem dX3_pairs_13 : decode cX3_pairs 13 = .ok (.iconst 1, 1) := by decide +kernel
theorem dX3_pairs_14 : decode cX3_pairs 14 = .ok (.iadd, 1) := by decide +kernel
theorem dX3_pairs_15 : decode cX3_pairs 15 = .ok (.istore_n 3, 1) := by decide +kernel
theorem dX3_pairs_16 : decode cX3_pairs 16 = .ok (.iload_n 3, 1) := by decide +kernel
theorem dX3_pairs_17 : decode cX3_pairs 17 = .ok (.aload_n 0, 1) := by decide +kernel
theorem dX3_pairs_18 : decode cX3_pairs 18 = .ok (.getfield 19, 3) := by decide +kernel
theorem dX3_pairs_21 : decode cX3_pairs 21 = .ok (.if_icmp .ge 27, 3) := by decide +kernel
theorem dX3_pairs_24 : decode cX3_pairs 24 = .ok (.aload_n 0, 1) := by decide +kernel
theorem dX3_pairs_25 : decode cX3_pairs 25 = .ok (.getfield 28, 3) := by decide +kernel
theorem dX3_pairs_28 : decode cX3_pairs 28 = .ok (.iload_n 2, 1) := by decide +kernel
theorem dX3_pairs_29 : decode cX3_pairs 29 = .ok (.iaload, 1) := by decide +kernel
theorem dX3_pairs_30 : decode cX3_pairs 30 = .ok (.aload_n 0, 1) := by decide +kernel
theorem dX3_pairs_31 : decode cX3_pairs 31 = .ok (.getfield 28, 3) := by decide +kernel
theorem dX3_pairs_34 : decode cX3_pairs 34 = .ok (.iload_n 3, 1) := by decide +kernel
theorem dX3_pairs_35 : decode cX3_pairs 35 = .ok (.iaload, 1) := by decide +kernel
theorem dX3_pairs_36 : decode cX3_pairs 36 = .ok (.if_icmp .ne 6, 3) := by decide +kernel
theorem dX3_pairs_39 : decode cX3_pairs 39 = .ok (.iinc 1 1, 3) := by decide +kernel
theorem dX3_pairs_42 : decode cX3_pairs 42 = .ok (.iinc 3 1, 3) := by decide +kernel
theorem dX3_pairs_45 : decode cX3_pairs 45 = .ok (.goto (-29), 3) := by decide +kernel
theorem dX3_pairs_48 : decode cX3_pairs 48 = .ok (.iinc 2 1, 3) := by decide +kernel
theorem dX3_pairs_51 : decode cX3_pairs 51 = .ok (.goto (-47), 3) := by decide +kernel
theorem dX3_pairs_54 : decode cX3_pairs 54 = .ok (.iload_n 1, 1) := by decide +kernel
theorem dX3_pairs_55 : decode cX3_pairs 55 = .ok (.ireturn, 1) := by decide +kernel
theorem dX3_hasDispute_0 : decode cX3_hasDispute 0 = .ok (.iconst 0, 1) := by decide +kernel
theorem dX3_hasDispute_1 : decode cX3_hasDispute 1 = .ok (.istore_n 1, 1) := by decide +kernel
theorem dX3_hasDispute_2 : decode cX3_hasDispute 2 = .ok (.iload_n 1, 1) := by decide +kernel
theorem dX3_hasDispute_3 : decode cX3_hasDispute 3 = .ok (.aload_n 0, 1) := by decide +kernel
theorem dX3_hasDispute_4 : decode cX3_hasDispute 4 = .ok (.getfield 19, 3) := by decide +kernel
theorem dX3_hasDispute_7 : decode cX3_hasDispute 7 = .ok (.if_icmp .ge 59, 3) := by decide +kernel
theorem dX3_hasDispute_10 : decode cX3_hasDispute 10 = .ok (.iload_n 1, 1) := by decide +kernel
theorem dX3_hasDispute_11 : decode cX3_hasDispute 11 = .ok (.iconst 1, 1) := by decide +kernel
theorem dX3_hasDispute_12 : decode cX3_hasDispute 12 = .ok (.iadd, 1) := by decide +kernel
theorem dX3_hasDispute_13 : decode cX3_hasDispute 13 = .ok (.istore_n 2, 1) := by decide +kernel
theorem dX3_hasDispute_14 : decode cX3_hasDispute 14 = .ok (.iload_n 2, 1) := by decide +kernel
theorem dX3_hasDispute_15 : decode cX3_hasDispute 15 = .ok (.aload_n 0, 1) := by decide +kernel
theorem dX3_hasDispute_16 : decode cX3_hasDispute 16 = .ok (.getfield 19, 3) := by decide +kernel
theorem dX3_hasDispute_19 : decode cX3_hasDispute 19 = .ok (.if_icmp .ge 41, 3) := by decide +kernel
theorem dX3_hasDispute_22 : decode cX3_hasDispute 22 = .ok (.aload_n 0, 1) := by decide +kernel
theorem dX3_hasDispute_23 : decode cX3_hasDispute 23 = .ok (.getfield 28, 3) := by decide +kernel
theorem dX3_hasDispute_26 : decode cX3_hasDispute 26 = .ok (.iload_n 1, 1) := by decide +kernel
theorem dX3_hasDispute_27 : decode cX3_hasDispute 27 = .ok (.iaload, 1) := by decide +kernel
theorem dX3_hasDispute_28 : decode cX3_hasDispute 28 = .ok (.aload_n 0, 1) := by decide +kernel
theorem dX3_hasDispute_29 : decode cX3_hasDispute 29 = .ok (.getfield 28, 3) := by decide +kernel
theorem dX3_hasDispute_32 : decode cX3_hasDispute 32 = .ok (.iload_n 2, 1) := by decide +kernel
theorem dX3_hasDispute_33 : decode cX3_hasDispute 33 = .ok (.iaload, 1) := by decide +kernel
theorem dX3_hasDispute_34 : decode cX3_hasDispute 34 = .ok (.if_icmp .ne 20, 3) := by decide +kernel
theorem dX3_hasDispute_37 : decode cX3_hasDispute 37 = .ok (.aload_n 0, 1) := by decide +kernel
theorem dX3_hasDispute_38 : decode cX3_hasDispute 38 = .ok (.getfield 31, 3) := by decide +kernel
theorem dX3_hasDispute_41 : decode cX3_hasDispute 41 = .ok (.iload_n 1, 1) := by decide +kernel
theorem dX3_hasDispute_42 : decode cX3_hasDispute 42 = .ok (.iaload, 1) := by decide +kernel
theorem dX3_hasDispute_43 : decode cX3_hasDispute 43 = .ok (.aload_n 0, 1) := by decide +kernel
theorem dX3_hasDispute_44 : decode cX3_hasDispute 44 = .ok (.getfield 31, 3) := by decide +kernel
theorem dX3_hasDispute_47 : decode cX3_hasDispute 47 = .ok (.iload_n 2, 1) := by decide +kernel
theorem dX3_hasDispute_48 : decode cX3_hasDispute 48 = .ok (.iaload, 1) := by decide +kernel
theorem dX3_hasDispute_49 : decode cX3_hasDispute 49 = .ok (.if_icmp .eq 5, 3) := by decide +kernel
theorem dX3_hasDispute_52 : decode cX3_hasDispute 52 = .ok (.iconst 1, 1) := by decide +kernel
theorem dX3_hasDispute_53 : decode cX3_hasDispute 53 = .ok (.ireturn, 1) := by decide +kernel
theorem dX3_hasDispute_54 : decode cX3_hasDispute 54 = .ok (.iinc 2 1, 3) := by decide +kernel
theorem dX3_hasDispute_57 : decode cX3_hasDispute 57 = .ok (.goto (-43), 3) := by decide +kernel
theorem dX3_hasDispute_60 : decode cX3_hasDispute 60 = .ok (.iinc 1 1, 3) := by decide +kernel
theorem dX3_hasDispute_63 : decode cX3_hasDispute 63 = .ok (.goto (-61), 3) := by decide +kernel
theorem dX3_hasDispute_66 : decode cX3_hasDispute 66 = .ok (.iconst 0, 1) := by decide +kernel
theorem dX3_hasDispute_67 : decode cX3_hasDispute 67 = .ok (.ireturn, 1) := by decide +kernel
theorem dX3_allRises_0 : decode cX3_allRises 0 = .ok (.iconst 0, 1) := by decide +kernel
theorem dX3_allRises_1 : decode cX3_allRises 1 = .ok (.istore_n 1, 1) := by decide +kernel
theorem dX3_allRises_2 : decode cX3_allRises 2 = .ok (.iconst 0, 1) := by decide +kernel
theorem dX3_allRises_3 : decode cX3_allRises 3 = .ok (.istore_n 2, 1) := by decide +kernel
theorem dX3_allRises_4 : decode cX3_allRises 4 = .ok (.iload_n 2, 1) := by decide +kernel
theorem dX3_allRises_5 : decode cX3_allRises 5 = .ok (.aload_n 0, 1) := by decide +kernel
theorem dX3_allRises_6 : decode cX3_allRises 6 = .ok (.getfield 63, 3) := by decide +kernel
theorem dX3_allRises_9 : decode cX3_allRises 9 = .ok (.if_icmp .ge 18, 3) := by decide +kernel
theorem dX3_allRises_12 : decode cX3_allRises 12 = .ok (.iload_n 1, 1) := by decide +kernel
theorem dX3_allRises_13 : decode cX3_allRises 13 = .ok (.aload_n 0, 1) := by decide +kernel
theorem dX3_allRises_14 : decode cX3_allRises 14 = .ok (.getfield 9, 3) := by decide +kernel
theorem dX3_allRises_17 : decode cX3_allRises 17 = .ok (.iload_n 2, 1) := by decide +kernel
theorem dX3_allRises_18 : decode cX3_allRises 18 = .ok (.iaload, 1) := by decide +kernel
theorem dX3_allRises_19 : decode cX3_allRises 19 = .ok (.iadd, 1) := by decide +kernel
theorem dX3_allRises_20 : decode cX3_allRises 20 = .ok (.istore_n 1, 1) := by decide +kernel
theorem dX3_allRises_21 : decode cX3_allRises 21 = .ok (.iinc 2 1, 3) := by decide +kernel
theorem dX3_allRises_24 : decode cX3_allRises 24 = .ok (.goto (-20), 3) := by decide +kernel
theorem dX3_allRises_27 : decode cX3_allRises 27 = .ok (.iload_n 1, 1) := by decide +kernel
theorem dX3_allRises_28 : decode cX3_allRises 28 = .ok (.ireturn, 1) := by decide +kernel
theorem dX3_lawOf_0 : decode cX3_lawOf 0 = .ok (.iload_n 1, 1) := by decide +kernel
theorem dX3_lawOf_1 : decode cX3_lawOf 1 = .ok (.ifCond .ne 10, 3) := by decide +kernel
theorem dX3_lawOf_4 : decode cX3_lawOf 4 = .ok (.aload_n 0, 1) := by decide +kernel
theorem dX3_lawOf_5 : decode cX3_lawOf 5 = .ok (.getfield 37, 3) := by decide +kernel
theorem dX3_lawOf_8 : decode cX3_lawOf 8 = .ok (.goto 7, 3) := by decide +kernel
theorem dX3_lawOf_11 : decode cX3_lawOf 11 = .ok (.aload_n 0, 1) := by decide +kernel
theorem dX3_lawOf_12 : decode cX3_lawOf 12 = .ok (.getfield 41, 3) := by decide +kernel
theorem dX3_lawOf_15 : decode cX3_lawOf 15 = .ok (.areturn, 1) := by decide +kernel
set_option maxRecDepth 20000 in
theorem ggX3_countedOf_X0_stands : GoodIn wsX3_countedOf wsX0_stands := goodIn_r _ [5, 6, 41, 42, 43] (by decide +kernel) (by decide +kernel)
set_option maxRecDepth 20000 in
theorem gX3_countedOf_X0_stands_n75 : GoodIn wsX3_countedOf (wsX0_stands) := ggX3_countedOf_X0_stands
set_option maxRecDepth 20000 in
theorem ggX3_countedOf_X0_work : GoodIn wsX3_countedOf wsX0_work := goodIn_r _ [9, 6, 10, 11, 12, 13, 3, 14, 41, 42, 43] (by decide +kernel) (by decide +kernel)
set_option maxRecDepth 20000 in
theorem gX3_countedOf_X0_work_n79 : GoodIn wsX3_countedOf (wsX0_work) := ggX3_countedOf_X0_work
set_option maxRecDepth 20000 in
theorem ggX3_countedOf_X5_held : GoodIn wsX3_countedOf wsX5_held := goodIn_r _ [17, 18, 19, 20, 21, 22, 23, 24] (by decide +kernel) (by decide +kernel)
set_option maxRecDepth 20000 in
theorem gX3_countedOf_X5_held_n83 : GoodIn wsX3_countedOf (wsX5_held) := ggX3_countedOf_X5_held
theorem dX3_countedOf_0 : decode cX3_countedOf 0 = .ok (.aload_n 0, 1) := by decide +kernel
theorem dX3_countedOf_1 : decode cX3_countedOf 1 = .ok (.getfield 37, 3) := by decide +kernel
theorem dX3_countedOf_4 : decode cX3_countedOf 4 = .ok (.invokevirtual 75, 3) := by decide +kernel
theorem dX3_countedOf_7 : decode cX3_countedOf 7 = .ok (.ifCond .eq 16, 3) := by decide +kernel
theorem dX3_countedOf_10 : decode cX3_countedOf 10 = .ok (.aload_n 0, 1) := by decide +kernel
theorem dX3_countedOf_11 : decode cX3_countedOf 11 = .ok (.getfield 37, 3) := by decide +kernel
theorem dX3_countedOf_14 : decode cX3_countedOf 14 = .ok (.iload_n 1, 1) := by decide +kernel
theorem dX3_countedOf_15 : decode cX3_countedOf 15 = .ok (.iload_n 2, 1) := by decide +kernel
theorem dX3_countedOf_16 : decode cX3_countedOf 16 = .ok (.iload_n 3, 1) := by decide +kernel
theorem dX3_countedOf_17 : decode cX3_countedOf 17 = .ok (.invokevirtual 79, 3) := by decide +kernel
theorem dX3_countedOf_20 : decode cX3_countedOf 20 = .ok (.goto 4, 3) := by decide +kernel
theorem dX3_countedOf_23 : decode cX3_countedOf 23 = .ok (.iload_n 1, 1) := by decide +kernel
theorem dX3_countedOf_24 : decode cX3_countedOf 24 = .ok (.bipush (-99), 2) := by decide +kernel
theorem dX3_countedOf_26 : decode cX3_countedOf 26 = .ok (.bipush 99, 2) := by decide +kernel
theorem dX3_countedOf_28 : decode cX3_countedOf 28 = .ok (.invokestatic 83, 3) := by decide +kernel
theorem dX3_countedOf_31 : decode cX3_countedOf 31 = .ok (.ireturn, 1) := by decide +kernel
set_option maxRecDepth 20000 in
theorem ggX3_worthOf_X0_stands : GoodIn wsX3_worthOf wsX0_stands := goodIn_r _ [5, 6, 41, 42, 43] (by decide +kernel) (by decide +kernel)
set_option maxRecDepth 20000 in
theorem gX3_worthOf_X0_stands_n75 : GoodIn wsX3_worthOf (wsX0_stands) := ggX3_worthOf_X0_stands
set_option maxRecDepth 20000 in
theorem ggX3_worthOf_X0_work : GoodIn wsX3_worthOf wsX0_work := goodIn_r _ [9, 6, 10, 11, 12, 13, 3, 14, 41, 42, 43] (by decide +kernel) (by decide +kernel)
set_option maxRecDepth 20000 in
theorem gX3_worthOf_X0_work_n79 : GoodIn wsX3_worthOf (wsX0_work) := ggX3_worthOf_X0_work
set_option maxRecDepth 20000 in
theorem ggX3_worthOf_X5_held : GoodIn wsX3_worthOf wsX5_held := goodIn_r _ [17, 18, 19, 20, 21, 22, 23, 24] (by decide +kernel) (by decide +kernel)
set_option maxRecDepth 20000 in
theorem gX3_worthOf_X5_held_n83 : GoodIn wsX3_worthOf (wsX5_held) := ggX3_worthOf_X5_held
theorem dX3_worthOf_0 : decode cX3_worthOf 0 = .ok (.aload_n 0, 1) := by decide +kernel
theorem dX3_worthOf_1 : decode cX3_worthOf 1 = .ok (.getfield 41, 3) := by decide +kernel
theorem dX3_worthOf_4 : decode cX3_worthOf 4 = .ok (.invokevirtual 75, 3) := by decide +kernel
theorem dX3_worthOf_7 : decode cX3_worthOf 7 = .ok (.ifCond .eq 16, 3) := by decide +kernel
theorem dX3_worthOf_10 : decode cX3_worthOf 10 = .ok (.aload_n 0, 1) := by decide +kernel
theorem dX3_worthOf_11 : decode cX3_worthOf 11 = .ok (.getfield 41, 3) := by decide +kernel
theorem dX3_worthOf_14 : decode cX3_worthOf 14 = .ok (.iload_n 1, 1) := by decide +kernel
theorem dX3_worthOf_15 : decode cX3_worthOf 15 = .ok (.iload_n 2, 1) := by decide +kernel
theorem dX3_worthOf_16 : decode cX3_worthOf 16 = .ok (.iload_n 3, 1) := by decide +kernel
theorem dX3_worthOf_17 : decode cX3_worthOf 17 = .ok (.invokevirtual 79, 3) := by decide +kernel
theorem dX3_worthOf_20 : decode cX3_worthOf 20 = .ok (.goto 4, 3) := by decide +kernel
theorem dX3_worthOf_23 : decode cX3_worthOf 23 = .ok (.iload_n 2, 1) := by decide +kernel
theorem dX3_worthOf_24 : decode cX3_worthOf 24 = .ok (.iconst 0, 1) := by decide +kernel
theorem dX3_worthOf_25 : decode cX3_worthOf 25 = .ok (.sipush 999, 3) := by decide +kernel
theorem dX3_worthOf_28 : decode cX3_worthOf 28 = .ok (.invokestatic 83, 3) := by decide +kernel
theorem dX3_worthOf_31 : decode cX3_worthOf 31 = .ok (.ireturn, 1) := by decide +kernel
set_option maxRecDepth 20000 in
theorem ggX3_goes_X5_isMultiple : GoodIn wsX3_goes wsX5_isMultiple := goodIn_r _ [6] (by decide +kernel) (by decide +kernel)
set_option maxRecDepth 20000 in
theorem gX3_goes_X5_isMultiple_n86 : GoodIn wsX3_goes (wsX5_isMultiple) := ggX3_goes_X5_isMultiple
theorem dX3_goes_0 : decode cX3_goes 0 = .ok (.aload_n 0, 1) := by decide +kernel
theorem dX3_goes_1 : decode cX3_goes 1 = .ok (.getfield 25, 3) := by decide +kernel
theorem dX3_goes_4 : decode cX3_goes 4 = .ok (.iload_n 1, 1) := by decide +kernel
theorem dX3_goes_5 : decode cX3_goes 5 = .ok (.iaload, 1) := by decide +kernel
theorem dX3_goes_6 : decode cX3_goes 6 = .ok (.istore_n 2, 1) := by decide +kernel
theorem dX3_goes_7 : decode cX3_goes 7 = .ok (.aload_n 0, 1) := by decide +kernel
theorem dX3_goes_8 : decode cX3_goes 8 = .ok (.getfield 22, 3) := by decide +kernel
theorem dX3_goes_11 : decode cX3_goes 11 = .ok (.iload_n 1, 1) := by decide +kernel
theorem dX3_goes_12 : decode cX3_goes 12 = .ok (.iaload, 1) := by decide +kernel
theorem dX3_goes_13 : decode cX3_goes 13 = .ok (.tableswitch 92 1 6 #[39, 45, 47, 39, 66, 73], 39) := by decide +kernel
theorem dX3_goes_52 : decode cX3_goes 52 = .ok (.iconst 1, 1) := by decide +kernel
theorem dX3_goes_53 : decode cX3_goes 53 = .ok (.iload_n 2, 1) := by decide +kernel
theorem dX3_goes_54 : decode cX3_goes 54 = .ok (.iconst 3, 1) := by decide +kernel
theorem dX3_goes_55 : decode cX3_goes 55 = .ok (.irem, 1) := by decide +kernel
theorem dX3_goes_56 : decode cX3_goes 56 = .ok (.iadd, 1) := by decide +kernel
theorem dX3_goes_57 : decode cX3_goes 57 = .ok (.ireturn, 1) := by decide +kernel
theorem dX3_goes_58 : decode cX3_goes 58 = .ok (.iconst (-1), 1) := by decide +kernel
theorem dX3_goes_59 : decode cX3_goes 59 = .ok (.ireturn, 1) := by decide +kernel
theorem dX3_goes_60 : decode cX3_goes 60 = .ok (.aload_n 0, 1) := by decide +kernel
theorem dX3_goes_61 : decode cX3_goes 61 = .ok (.getfield 15, 3) := by decide +kernel
theorem dX3_goes_64 : decode cX3_goes 64 = .ok (.iload_n 2, 1) := by decide +kernel
theorem dX3_goes_65 : decode cX3_goes 65 = .ok (.iconst 1, 1) := by decide +kernel
theorem dX3_goes_66 : decode cX3_goes 66 = .ok (.iadd, 1) := by decide +kernel
theorem dX3_goes_67 : decode cX3_goes 67 = .ok (.invokestatic 86, 3) := by decide +kernel
theorem dX3_goes_70 : decode cX3_goes 70 = .ok (.ifCond .eq 7, 3) := by decide +kernel
theorem dX3_goes_73 : decode cX3_goes 73 = .ok (.iconst (-1), 1) := by decide +kernel
theorem dX3_goes_74 : decode cX3_goes 74 = .ok (.goto 4, 3) := by decide +kernel
theorem dX3_goes_77 : decode cX3_goes 77 = .ok (.iconst 1, 1) := by decide +kernel
theorem dX3_goes_78 : decode cX3_goes 78 = .ok (.ireturn, 1) := by decide +kernel
theorem dX3_goes_79 : decode cX3_goes 79 = .ok (.bipush (-2), 2) := by decide +kernel
theorem dX3_goes_81 : decode cX3_goes 81 = .ok (.iload_n 2, 1) := by decide +kernel
theorem dX3_goes_82 : decode cX3_goes 82 = .ok (.iconst 3, 1) := by decide +kernel
theorem dX3_goes_83 : decode cX3_goes 83 = .ok (.irem, 1) := by decide +kernel
theorem dX3_goes_84 : decode cX3_goes 84 = .ok (.isub, 1) := by decide +kernel
theorem dX3_goes_85 : decode cX3_goes 85 = .ok (.ireturn, 1) := by decide +kernel
theorem dX3_goes_86 : decode cX3_goes 86 = .ok (.aload_n 0, 1) := by decide +kernel
theorem dX3_goes_87 : decode cX3_goes 87 = .ok (.getfield 15, 3) := by decide +kernel
theorem dX3_goes_90 : decode cX3_goes 90 = .ok (.iconst 4, 1) := by decide +kernel
theorem dX3_goes_91 : decode cX3_goes 91 = .ok (.invokestatic 86, 3) := by decide +kernel
theorem dX3_goes_94 : decode cX3_goes 94 = .ok (.ifCond .eq 9, 3) := by decide +kernel
theorem dX3_goes_97 : decode cX3_goes 97 = .ok (.iload_n 2, 1) := by decide +kernel
theorem dX3_goes_98 : decode cX3_goes 98 = .ok (.iconst 1, 1) := by decide +kernel
theorem dX3_goes_99 : decode cX3_goes 99 = .ok (.iadd, 1) := by decide +kernel
theorem dX3_goes_100 : decode cX3_goes 100 = .ok (.goto 4, 3) := by decide +kernel
theorem dX3_goes_103 : decode cX3_goes 103 = .ok (.iconst 0, 1) := by decide +kernel
theorem dX3_goes_104 : decode cX3_goes 104 = .ok (.ireturn, 1) := by decide +kernel
theorem dX3_goes_105 : decode cX3_goes 105 = .ok (.iconst 1, 1) := by decide +kernel
theorem dX3_goes_106 : decode cX3_goes 106 = .ok (.ireturn, 1) := by decide +kernel
set_option maxRecDepth 20000 in
theorem ggX3_tally_X3_countedOf : GoodIn wsX3_tally wsX3_countedOf := goodIn_r _ [9, 10, 11, 12, 13, 14, 15, 16, 17, 18, 19, 20, 21, 22, 23, 24, 25, 26, 27, 28, 29, 30, 31, 32, 33, 38, 39, 40, 41, 42, 43, 44, 45, 46, 47, 48, 49, 50, 51, 52, 53, 54, 55, 56] (by decide +kernel) (by decide +kernel)
set_option maxRecDepth 20000 in
theorem gX3_tally_X3_countedOf : GoodIn wsX3_tally (wsV RX3 90 RX3 yX3_countedOf wsX3_countedOf) := goodIn_app (goodIn_of _ (by decide +kernel)) ggX3_tally_X3_countedOf
set_option maxRecDepth 20000 in
theorem ggX3_tally_J6_compare_7cf53 : GoodIn wsX3_tally wsJ6_compare_7cf53 := goodIn_r _ [37] (by decide +kernel) (by decide +kernel)
set_option maxRecDepth 20000 in
theorem gX3_tally_J6_compare_7cf53 : GoodIn wsX3_tally (va_wsS RX3 93 yJ6_compare_7cf53 wsJ6_compare_7cf53) := goodIn_app (goodIn_of _ (by decide +kernel)) ggX3_tally_J6_compare_7cf53
theorem dX3_tally_0 : decode cX3_tally 0 = .ok (.aload_n 0, 1) := by decide +kernel
theorem dX3_tally_1 : decode cX3_tally 1 = .ok (.getfield 22, 3) := by decide +kernel
theorem dX3_tally_4 : decode cX3_tally 4 = .ok (.iload_n 1, 1) := by decide +kernel
theorem dX3_tally_5 : decode cX3_tally 5 = .ok (.iaload, 1) := by decide +kernel
theorem dX3_tally_6 : decode cX3_tally 6 = .ok (.istore_n 3, 1) := by decide +kernel
theorem dX3_tally_7 : decode cX3_tally 7 = .ok (.iload_n 2, 1) := by decide +kernel
theorem dX3_tally_8 : decode cX3_tally 8 = .ok (.aload_n 0, 1) := by decide +kernel
theorem dX3_tally_9 : decode cX3_tally 9 = .ok (.getfield 66, 3) := by decide +kernel
theorem dX3_tally_12 : decode cX3_tally 12 = .ok (.if_icmp .eq 9, 3) := by decide +kernel
theorem dX3_tally_15 : decode cX3_tally 15 = .ok (.iload_n 3, 1) := by decide +kernel
theorem dX3_tally_16 : decode cX3_tally 16 = .ok (.bipush 6, 2) := by decide +kernel
theorem dX3_tally_18 : decode cX3_tally 18 = .ok (.if_icmp .ne 5, 3) := by decide +kernel
theorem dX3_tally_21 : decode cX3_tally 21 = .ok (.iconst 0, 1) := by decide +kernel
theorem dX3_tally_22 : decode cX3_tally 22 = .ok (.ireturn, 1) := by decide +kernel
theorem dX3_tally_23 : decode cX3_tally 23 = .ok (.aload_n 0, 1) := by decide +kernel
theorem dX3_tally_24 : decode cX3_tally 24 = .ok (.aload_n 0, 1) := by decide +kernel
theorem dX3_tally_25 : decode cX3_tally 25 = .ok (.getfield 9, 3) := by decide +kernel
theorem dX3_tally_28 : decode cX3_tally 28 = .ok (.iload_n 2, 1) := by decide +kernel
theorem dX3_tally_29 : decode cX3_tally 29 = .ok (.iaload, 1) := by decide +kernel
theorem dX3_tally_30 : decode cX3_tally 30 = .ok (.iload_n 2, 1) := by decide +kernel
theorem dX3_tally_31 : decode cX3_tally 31 = .ok (.aload_n 0, 1) := by decide +kernel
theorem dX3_tally_32 : decode cX3_tally 32 = .ok (.getfield 15, 3) := by decide +kernel
theorem dX3_tally_35 : decode cX3_tally 35 = .ok (.invokevirtual 90, 3) := by decide +kernel
theorem dX3_tally_38 : decode cX3_tally 38 = .ok (.istore 4, 2) := by decide +kernel
theorem dX3_tally_40 : decode cX3_tally 40 = .ok (.iload_n 3, 1) := by decide +kernel
theorem dX3_tally_41 : decode cX3_tally 41 = .ok (.lookupswitch 39 #[(4, 27), (5, 34)], 27) := by decide +kernel
theorem dX3_tally_68 : decode cX3_tally 68 = .ok (.iload 4, 2) := by decide +kernel
theorem dX3_tally_70 : decode cX3_tally 70 = .ok (.iconst 0, 1) := by decide +kernel
theorem dX3_tally_71 : decode cX3_tally 71 = .ok (.invokestatic 93, 3) := by decide +kernel
theorem dX3_tally_74 : decode cX3_tally 74 = .ok (.ireturn, 1) := by decide +kernel
theorem dX3_tally_75 : decode cX3_tally 75 = .ok (.iconst 2, 1) := by decide +kernel
theorem dX3_tally_76 : decode cX3_tally 76 = .ok (.iload 4, 2) := by decide +kernel
theorem dX3_tally_78 : decode cX3_tally 78 = .ok (.imul, 1) := by decide +kernel
theorem dX3_tally_79 : decode cX3_tally 79 = .ok (.ireturn, 1) := by decide +kernel
theorem dX3_tally_80 : decode cX3_tally 80 = .ok (.iload 4, 2) := by decide +kernel
theorem dX3_tally_82 : decode cX3_tally 82 = .ok (.ireturn, 1) := by decide +kernel
set_option maxRecDepth 20000 in
theorem ggX3_ring_J9_floorMod_7cf53 : GoodIn wsX3_ring wsJ9_floorMod_7cf53 := goodIn_r _ [5] (by decide +kernel) (by decide +kernel)
set_option maxRecDepth 20000 in
theorem gX3_ring_J9_floorMod_7cf53 : GoodIn wsX3_ring (va_wsS RX3 99 yJ9_floorMod_7cf53 wsJ9_floorMod_7cf53) := goodIn_app (goodIn_of _ (by decide +kernel)) ggX3_ring_J9_floorMod_7cf53
theorem dX3_ring_0 : decode cX3_ring 0 = .ok (.aload_n 0, 1) := by decide +kernel
theorem dX3_ring_1 : decode cX3_ring 1 = .ok (.getfield 63, 3) := by decide +kernel
theorem dX3_ring_4 : decode cX3_ring 4 = .ok (.ifCond .le 14, 3) := by decide +kernel
theorem dX3_ring_7 : decode cX3_ring 7 = .ok (.iload_n 1, 1) := by decide +kernel
theorem dX3_ring_8 : decode cX3_ring 8 = .ok (.aload_n 0, 1) := by decide +kernel
theorem dX3_ring_9 : decode cX3_ring 9 = .ok (.getfield 63, 3) := by decide +kernel
theorem dX3_ring_12 : decode cX3_ring 12 = .ok (.invokestatic 99, 3) := by decide +kernel
theorem dX3_ring_15 : decode cX3_ring 15 = .ok (.goto 4, 3) := by decide +kernel
theorem dX3_ring_18 : decode cX3_ring 18 = .ok (.iconst 0, 1) := by decide +kernel
theorem dX3_ring_19 : decode cX3_ring 19 = .ok (.ireturn, 1) := by decide +kernel
set_option maxRecDepth 20000 in
theorem ggX3_go_X3_goes : GoodIn wsX3_go wsX3_goes := goodIn_r _ [7, 8, 9, 10, 11, 12, 13, 60, 61, 62, 63, 64, 65, 66, 67, 68, 69, 70, 71, 72, 73, 74, 75] (by decide +kernel) (by decide +kernel)
set_option maxRecDepth 20000 in
theorem gX3_go_X3_goes : GoodIn wsX3_go (wsV RX3 104 RX3 yX3_goes wsX3_goes) := goodIn_app (goodIn_of _ (by decide +kernel)) ggX3_go_X3_goes
set_option maxRecDepth 20000 in
theorem ggX3_go_X3_tally : GoodIn wsX3_go wsX3_tally := goodIn_r _ [17, 9, 18, 19, 10, 20, 21, 22, 6, 23, 24, 25, 26, 27, 28, 29, 30, 31, 32, 33, 34, 35, 36, 37, 38, 12, 39, 40, 41, 42, 43, 44, 45, 46, 47, 48, 49, 50, 60, 61, 62, 63, 64, 65, 66, 67, 68, 69, 70, 71, 72, 73, 74, 75, 76, 77, 78] (by decide +kernel) (by decide +kernel)
set_option maxRecDepth 20000 in
theorem gX3_go_X3_tally : GoodIn wsX3_go (wsV RX3 108 RX3 yX3_tally wsX3_tally) := goodIn_app (goodIn_of _ (by decide +kernel)) ggX3_go_X3_tally
set_option maxRecDepth 20000 in
theorem ggX3_go_X5_held : GoodIn wsX3_go wsX5_held := goodIn_r _ [39, 40, 41, 42, 43, 44, 45, 46] (by decide +kernel) (by decide +kernel)
set_option maxRecDepth 20000 in
theorem gX3_go_X5_held_n83 : GoodIn wsX3_go (wsX5_held) := ggX3_go_X5_held
set_option maxRecDepth 20000 in
theorem ggX3_go_X3_ring : GoodIn wsX3_go wsX3_ring := goodIn_r _ [54, 55, 56, 57, 58, 59, 60, 61, 62, 63, 64, 65, 66, 67, 68, 69, 70, 71, 72, 73, 74, 75] (by decide +kernel) (by decide +kernel)
set_option maxRecDepth 20000 in
theorem gX3_go_X3_ring : GoodIn wsX3_go (wsV RX3 111 RX3 yX3_ring wsX3_ring) := goodIn_app (goodIn_of _ (by decide +kernel)) ggX3_go_X3_ring
theorem dX3_go_0 : decode cX3_go 0 = .ok (.aload_n 0, 1) := by decide +kernel
theorem dX3_go_1 : decode cX3_go 1 = .ok (.iload_n 1, 1) := by decide +kernel
theorem dX3_go_2 : decode cX3_go 2 = .ok (.invokevirtual 104, 3) := by decide +kernel
theorem dX3_go_5 : decode cX3_go 5 = .ok (.istore_n 2, 1) := by decide +kernel
theorem dX3_go_6 : decode cX3_go 6 = .ok (.aload_n 0, 1) := by decide +kernel
theorem dX3_go_7 : decode cX3_go 7 = .ok (.getfield 28, 3) := by decide +kernel
theorem dX3_go_10 : decode cX3_go 10 = .ok (.iload_n 1, 1) := by decide +kernel
theorem dX3_go_11 : decode cX3_go 11 = .ok (.iaload, 1) := by decide +kernel
theorem dX3_go_12 : decode cX3_go 12 = .ok (.istore_n 3, 1) := by decide +kernel
theorem dX3_go_13 : decode cX3_go 13 = .ok (.aload_n 0, 1) := by decide +kernel
theorem dX3_go_14 : decode cX3_go 14 = .ok (.getfield 31, 3) := by decide +kernel
theorem dX3_go_17 : decode cX3_go 17 = .ok (.iload_n 1, 1) := by decide +kernel
theorem dX3_go_18 : decode cX3_go 18 = .ok (.iaload, 1) := by decide +kernel
theorem dX3_go_19 : decode cX3_go 19 = .ok (.istore 4, 2) := by decide +kernel
theorem dX3_go_21 : decode cX3_go 21 = .ok (.iconst 0, 1) := by decide +kernel
theorem dX3_go_22 : decode cX3_go 22 = .ok (.istore 5, 2) := by decide +kernel
theorem dX3_go_24 : decode cX3_go 24 = .ok (.iload 5, 2) := by decide +kernel
theorem dX3_go_26 : decode cX3_go 26 = .ok (.iload_n 2, 1) := by decide +kernel
theorem dX3_go_27 : decode cX3_go 27 = .ok (.if_icmp .ge 37, 3) := by decide +kernel
theorem dX3_go_30 : decode cX3_go 30 = .ok (.iload 4, 2) := by decide +kernel
theorem dX3_go_32 : decode cX3_go 32 = .ok (.aload_n 0, 1) := by decide +kernel
theorem dX3_go_33 : decode cX3_go 33 = .ok (.iload_n 1, 1) := by decide +kernel
theorem dX3_go_34 : decode cX3_go 34 = .ok (.iload_n 3, 1) := by decide +kernel
theorem dX3_go_35 : decode cX3_go 35 = .ok (.invokevirtual 108, 3) := by decide +kernel
theorem dX3_go_38 : decode cX3_go 38 = .ok (.iadd, 1) := by decide +kernel
theorem dX3_go_39 : decode cX3_go 39 = .ok (.sipush (-9999), 3) := by decide +kernel
theorem dX3_go_42 : decode cX3_go 42 = .ok (.sipush 9999, 3) := by decide +kernel
theorem dX3_go_45 : decode cX3_go 45 = .ok (.invokestatic 83, 3) := by decide +kernel
theorem dX3_go_48 : decode cX3_go 48 = .ok (.istore 4, 2) := by decide +kernel
theorem dX3_go_50 : decode cX3_go 50 = .ok (.aload_n 0, 1) := by decide +kernel
theorem dX3_go_51 : decode cX3_go 51 = .ok (.iload_n 3, 1) := by decide +kernel
theorem dX3_go_52 : decode cX3_go 52 = .ok (.iconst 1, 1) := by decide +kernel
theorem dX3_go_53 : decode cX3_go 53 = .ok (.iadd, 1) := by decide +kernel
theorem dX3_go_54 : decode cX3_go 54 = .ok (.invokevirtual 111, 3) := by decide +kernel
theorem dX3_go_57 : decode cX3_go 57 = .ok (.istore_n 3, 1) := by decide +kernel
theorem dX3_go_58 : decode cX3_go 58 = .ok (.iinc 5 1, 3) := by decide +kernel
theorem dX3_go_61 : decode cX3_go 61 = .ok (.goto (-37), 3) := by decide +kernel
theorem dX3_go_64 : decode cX3_go 64 = .ok (.iconst 0, 1) := by decide +kernel
theorem dX3_go_65 : decode cX3_go 65 = .ok (.istore 5, 2) := by decide +kernel
theorem dX3_go_67 : decode cX3_go 67 = .ok (.iload 5, 2) := by decide +kernel
theorem dX3_go_69 : decode cX3_go 69 = .ok (.iload_n 2, 1) := by decide +kernel
theorem dX3_go_70 : decode cX3_go 70 = .ok (.if_icmp .le 37, 3) := by decide +kernel
theorem dX3_go_73 : decode cX3_go 73 = .ok (.aload_n 0, 1) := by decide +kernel
theorem dX3_go_74 : decode cX3_go 74 = .ok (.iload_n 3, 1) := by decide +kernel
theorem dX3_go_75 : decode cX3_go 75 = .ok (.iconst 1, 1) := by decide +kernel
theorem dX3_go_76 : decode cX3_go 76 = .ok (.isub, 1) := by decide +kernel
theorem dX3_go_77 : decode cX3_go 77 = .ok (.invokevirtual 111, 3) := by decide +kernel
theorem dX3_go_80 : decode cX3_go 80 = .ok (.istore_n 3, 1) := by decide +kernel
theorem dX3_go_81 : decode cX3_go 81 = .ok (.iload 4, 2) := by decide +kernel
theorem dX3_go_83 : decode cX3_go 83 = .ok (.aload_n 0, 1) := by decide +kernel
theorem dX3_go_84 : decode cX3_go 84 = .ok (.iload_n 1, 1) := by decide +kernel
theorem dX3_go_85 : decode cX3_go 85 = .ok (.iload_n 3, 1) := by decide +kernel
theorem dX3_go_86 : decode cX3_go 86 = .ok (.invokevirtual 108, 3) := by decide +kernel
theorem dX3_go_89 : decode cX3_go 89 = .ok (.isub, 1) := by decide +kernel
theorem dX3_go_90 : decode cX3_go 90 = .ok (.sipush (-9999), 3) := by decide +kernel
theorem dX3_go_93 : decode cX3_go 93 = .ok (.sipush 9999, 3) := by decide +kernel
theorem dX3_go_96 : decode cX3_go 96 = .ok (.invokestatic 83, 3) := by decide +kernel
theorem dX3_go_99 : decode cX3_go 99 = .ok (.istore 4, 2) := by decide +kernel
theorem dX3_go_101 : decode cX3_go 101 = .ok (.iinc 5 (-1), 3) := by decide +kernel
theorem dX3_go_104 : decode cX3_go 104 = .ok (.goto (-37), 3) := by decide +kernel
theorem dX3_go_107 : decode cX3_go 107 = .ok (.aload_n 0, 1) := by decide +kernel
theorem dX3_go_108 : decode cX3_go 108 = .ok (.getfield 28, 3) := by decide +kernel
theorem dX3_go_111 : decode cX3_go 111 = .ok (.iload_n 1, 1) := by decide +kernel
theorem dX3_go_112 : decode cX3_go 112 = .ok (.iload_n 3, 1) := by decide +kernel
theorem dX3_go_113 : decode cX3_go 113 = .ok (.iastore, 1) := by decide +kernel
theorem dX3_go_114 : decode cX3_go 114 = .ok (.aload_n 0, 1) := by decide +kernel
theorem dX3_go_115 : decode cX3_go 115 = .ok (.getfield 31, 3) := by decide +kernel
theorem dX3_go_118 : decode cX3_go 118 = .ok (.iload_n 1, 1) := by decide +kernel
theorem dX3_go_119 : decode cX3_go 119 = .ok (.iload 4, 2) := by decide +kernel
theorem dX3_go_121 : decode cX3_go 121 = .ok (.iastore, 1) := by decide +kernel
theorem dX3_go_122 : decode cX3_go 122 = .ok (.return_, 1) := by decide +kernel
set_option maxRecDepth 20000 in
theorem ggX3_pass_X3_go : GoodIn wsX3_pass wsX3_go := goodIn_r _ [7, 8, 9, 10, 11, 12, 6, 13, 14, 15, 2, 16, 17, 18, 19, 20, 21, 22, 23, 24, 25, 26, 27, 28, 29, 30, 31, 32, 33, 34, 35, 36, 37, 38, 39, 40, 41, 42, 43, 44, 45, 46, 47, 48, 49, 50, 51, 52, 53, 54, 55, 56, 57, 58, 59, 60, 61, 62, 63, 64, 65, 66, 67, 68, 69, 70, 71, 72, 73, 74, 75, 76, 77, 78, 79, 80, 81, 82, 83] (by decide +kernel) (by decide +kernel)
set_option maxRecDepth 20000 in
theorem gX3_pass_X3_go : GoodIn wsX3_pass (wsV RX3 114 RX3 yX3_go wsX3_go) := goodIn_app (goodIn_of _ (by decide +kernel)) ggX3_pass_X3_go
theorem dX3_pass_0 : decode cX3_pass 0 = .ok (.iconst 0, 1) := by decide +kernel
theorem dX3_pass_1 : decode cX3_pass 1 = .ok (.istore_n 1, 1) := by decide +kernel
theorem dX3_pass_2 : decode cX3_pass 2 = .ok (.iload_n 1, 1) := by decide +kernel
theorem dX3_pass_3 : decode cX3_pass 3 = .ok (.aload_n 0, 1) := by decide +kernel
theorem dX3_pass_4 : decode cX3_pass 4 = .ok (.getfield 19, 3) := by decide +kernel
theorem dX3_pass_7 : decode cX3_pass 7 = .ok (.if_icmp .ge 14, 3) := by decide +kernel
theorem dX3_pass_10 : decode cX3_pass 10 = .ok (.aload_n 0, 1) := by decide +kernel
theorem dX3_pass_11 : decode cX3_pass 11 = .ok (.iload_n 1, 1) := by decide +kernel
theorem dX3_pass_12 : decode cX3_pass 12 = .ok (.invokevirtual 114, 3) := by decide +kernel
theorem dX3_pass_15 : decode cX3_pass 15 = .ok (.iinc 1 1, 3) := by decide +kernel
theorem dX3_pass_18 : decode cX3_pass 18 = .ok (.goto (-16), 3) := by decide +kernel
theorem dX3_pass_21 : decode cX3_pass 21 = .ok (.aload_n 0, 1) := by decide +kernel
theorem dX3_pass_22 : decode cX3_pass 22 = .ok (.dup, 1) := by decide +kernel
theorem dX3_pass_23 : decode cX3_pass 23 = .ok (.getfield 15, 3) := by decide +kernel
theorem dX3_pass_26 : decode cX3_pass 26 = .ok (.iconst 1, 1) := by decide +kernel
theorem dX3_pass_27 : decode cX3_pass 27 = .ok (.iadd, 1) := by decide +kernel
theorem dX3_pass_28 : decode cX3_pass 28 = .ok (.putfield 15, 3) := by decide +kernel
theorem dX3_pass_31 : decode cX3_pass 31 = .ok (.return_, 1) := by decide +kernel
set_option maxRecDepth 20000 in
theorem ggX3_passFor_X3_go : GoodIn wsX3_passFor wsX3_go := goodIn_r _ [6, 7, 8, 9, 10, 11, 5, 12, 13, 14, 1, 15, 16, 17, 18, 19, 20, 21, 22, 23, 24, 25, 26, 27, 28, 29, 30, 31, 32, 33, 34, 35, 36, 37, 38, 39, 40, 41, 42, 43, 44, 45, 46, 47, 48, 49, 50, 51, 52, 53, 54, 55, 56, 57, 58, 59, 60, 61, 62, 63, 64, 65, 66, 67, 68, 69, 70, 71, 72, 73, 74, 75, 76, 77, 78, 79, 80, 81, 82] (by decide +kernel) (by decide +kernel)
set_option maxRecDepth 20000 in
theorem gX3_passFor_X3_go : GoodIn wsX3_passFor (wsV RX3 114 RX3 yX3_go wsX3_go) := goodIn_app (goodIn_of _ (by decide +kernel)) ggX3_passFor_X3_go
theorem dX3_passFor_0 : decode cX3_passFor 0 = .ok (.aload_n 0, 1) := by decide +kernel
theorem dX3_passFor_1 : decode cX3_passFor 1 = .ok (.iload_n 1, 1) := by decide +kernel
theorem dX3_passFor_2 : decode cX3_passFor 2 = .ok (.invokevirtual 114, 3) := by decide +kernel
theorem dX3_passFor_5 : decode cX3_passFor 5 = .ok (.aload_n 0, 1) := by decide +kernel
theorem dX3_passFor_6 : decode cX3_passFor 6 = .ok (.dup, 1) := by decide +kernel
theorem dX3_passFor_7 : decode cX3_passFor 7 = .ok (.getfield 15, 3) := by decide +kernel
theorem dX3_passFor_10 : decode cX3_passFor 10 = .ok (.iconst 1, 1) := by decide +kernel
theorem dX3_passFor_11 : decode cX3_passFor 11 = .ok (.iadd, 1) := by decide +kernel
theorem dX3_passFor_12 : decode cX3_passFor 12 = .ok (.putfield 15, 3) := by decide +kernel
theorem dX3_passFor_15 : decode cX3_passFor 15 = .ok (.return_, 1) := by decide +kernel
set_option maxRecDepth 20000 in
theorem ggX3_goesAs_X3_passFor : GoodIn wsX3_goesAs wsX3_passFor := goodIn_r _ [6, 7, 8, 9, 10, 5, 11, 12, 1, 13, 14, 15, 16, 17, 18, 19, 20, 21, 22, 23, 24, 25, 26, 27, 28, 29, 30, 31, 32, 33, 34, 35, 36, 37, 38, 39, 40, 41, 42, 43, 44, 45, 46, 47, 48, 49, 50, 51, 52, 53, 54, 55, 56, 57, 58, 59, 60, 61, 62, 63, 64, 65, 66, 67, 68, 69, 70, 71, 72, 73, 74, 75, 76, 77, 78, 79, 80, 81, 82, 83, 84, 85, 86] (by decide +kernel) (by decide +kernel)
set_option maxRecDepth 20000 in
theorem gX3_goesAs_X3_passFor : GoodIn wsX3_goesAs (wsV RX3 117 RX3 yX3_passFor wsX3_passFor) := goodIn_app (goodIn_of _ (by decide +kernel)) ggX3_goesAs_X3_passFor
theorem dX3_goesAs_0 : decode cX3_goesAs 0 = .ok (.iconst 0, 1) := by decide +kernel
theorem dX3_goesAs_1 : decode cX3_goesAs 1 = .ok (.istore 4, 2) := by decide +kernel
theorem dX3_goesAs_3 : decode cX3_goesAs 3 = .ok (.iload 4, 2) := by decide +kernel
theorem dX3_goesAs_5 : decode cX3_goesAs 5 = .ok (.iload_n 3, 1) := by decide +kernel
theorem dX3_goesAs_6 : decode cX3_goesAs 6 = .ok (.if_icmp .ge 36, 3) := by decide +kernel
theorem dX3_goesAs_9 : decode cX3_goesAs 9 = .ok (.iload 4, 2) := by decide +kernel
theorem dX3_goesAs_11 : decode cX3_goesAs 11 = .ok (.aload_n 2, 1) := by decide +kernel
theorem dX3_goesAs_12 : decode cX3_goesAs 12 = .ok (.arraylength, 1) := by decide +kernel
theorem dX3_goesAs_13 : decode cX3_goesAs 13 = .ok (.if_icmp .ge 29, 3) := by decide +kernel
theorem dX3_goesAs_16 : decode cX3_goesAs 16 = .ok (.aload_n 0, 1) := by decide +kernel
theorem dX3_goesAs_17 : decode cX3_goesAs 17 = .ok (.iload_n 1, 1) := by decide +kernel
theorem dX3_goesAs_18 : decode cX3_goesAs 18 = .ok (.invokevirtual 117, 3) := by decide +kernel
theorem dX3_goesAs_21 : decode cX3_goesAs 21 = .ok (.aload_n 0, 1) := by decide +kernel
theorem dX3_goesAs_22 : decode cX3_goesAs 22 = .ok (.getfield 31, 3) := by decide +kernel
theorem dX3_goesAs_25 : decode cX3_goesAs 25 = .ok (.iload_n 1, 1) := by decide +kernel
theorem dX3_goesAs_26 : decode cX3_goesAs 26 = .ok (.iaload, 1) := by decide +kernel
theorem dX3_goesAs_27 : decode cX3_goesAs 27 = .ok (.aload_n 2, 1) := by decide +kernel
theorem dX3_goesAs_28 : decode cX3_goesAs 28 = .ok (.iload 4, 2) := by decide +kernel
theorem dX3_goesAs_30 : decode cX3_goesAs 30 = .ok (.iaload, 1) := by decide +kernel
theorem dX3_goesAs_31 : decode cX3_goesAs 31 = .ok (.if_icmp .eq 5, 3) := by decide +kernel
theorem dX3_goesAs_34 : decode cX3_goesAs 34 = .ok (.iconst 0, 1) := by decide +kernel
theorem dX3_goesAs_35 : decode cX3_goesAs 35 = .ok (.ireturn, 1) := by decide +kernel
theorem dX3_goesAs_36 : decode cX3_goesAs 36 = .ok (.iinc 4 1, 3) := by decide +kernel
theorem dX3_goesAs_39 : decode cX3_goesAs 39 = .ok (.goto (-36), 3) := by decide +kernel
theorem dX3_goesAs_42 : decode cX3_goesAs 42 = .ok (.iconst 1, 1) := by decide +kernel
theorem dX3_goesAs_43 : decode cX3_goesAs 43 = .ok (.ireturn, 1) := by decide +kernel
set_option maxRecDepth 20000 in
theorem ggX3_passUncounted_X3_goes : GoodIn wsX3_passUncounted wsX3_goes := goodIn_r _ [8, 9, 10, 3, 11, 12, 13, 23, 24, 25, 26, 27, 28, 29, 30, 31, 32, 33, 34, 35, 36, 37, 38] (by decide +kernel) (by decide +kernel)
set_option maxRecDepth 20000 in
theorem gX3_passUncounted_X3_goes : GoodIn wsX3_passUncounted (wsV RX3 104 RX3 yX3_goes wsX3_goes) := goodIn_app (goodIn_of _ (by decide +kernel)) ggX3_passUncounted_X3_goes
set_option maxRecDepth 20000 in
theorem ggX3_passUncounted_X3_ring : GoodIn wsX3_passUncounted wsX3_ring := goodIn_r _ [17, 18, 19, 20, 21, 22, 23, 24, 25, 26, 27, 28, 29, 30, 31, 32, 33, 34, 35, 36, 37, 38] (by decide +kernel) (by decide +kernel)
set_option maxRecDepth 20000 in
theorem gX3_passUncounted_X3_ring : GoodIn wsX3_passUncounted (wsV RX3 111 RX3 yX3_ring wsX3_ring) := goodIn_app (goodIn_of _ (by decide +kernel)) ggX3_passUncounted_X3_ring
theorem dX3_passUncounted_0 : decode cX3_passUncounted 0 = .ok (.iconst 0, 1) := by decide +kernel
theorem dX3_passUncounted_1 : decode cX3_passUncounted 1 = .ok (.istore_n 1, 1) := by decide +kernel
theorem dX3_passUncounted_2 : decode cX3_passUncounted 2 = .ok (.iload_n 1, 1) := by decide +kernel
theorem dX3_passUncounted_3 : decode cX3_passUncounted 3 = .ok (.aload_n 0, 1) := by decide +kernel
theorem dX3_passUncounted_4 : decode cX3_passUncounted 4 = .ok (.getfield 19, 3) := by decide +kernel
theorem dX3_passUncounted_7 : decode cX3_passUncounted 7 = .ok (.if_icmp .ge 31, 3) := by decide +kernel
theorem dX3_passUncounted_10 : decode cX3_passUncounted 10 = .ok (.aload_n 0, 1) := by decide +kernel
theorem dX3_passUncounted_11 : decode cX3_passUncounted 11 = .ok (.getfield 28, 3) := by decide +kernel
theorem dX3_passUncounted_14 : decode cX3_passUncounted 14 = .ok (.iload_n 1, 1) := by decide +kernel
theorem dX3_passUncounted_15 : decode cX3_passUncounted 15 = .ok (.aload_n 0, 1) := by decide +kernel
theorem dX3_passUncounted_16 : decode cX3_passUncounted 16 = .ok (.aload_n 0, 1) := by decide +kernel
theorem dX3_passUncounted_17 : decode cX3_passUncounted 17 = .ok (.getfield 28, 3) := by decide +kernel
theorem dX3_passUncounted_20 : decode cX3_passUncounted 20 = .ok (.iload_n 1, 1) := by decide +kernel
theorem dX3_passUncounted_21 : decode cX3_passUncounted 21 = .ok (.iaload, 1) := by decide +kernel
theorem dX3_passUncounted_22 : decode cX3_passUncounted 22 = .ok (.aload_n 0, 1) := by decide +kernel
theorem dX3_passUncounted_23 : decode cX3_passUncounted 23 = .ok (.iload_n 1, 1) := by decide +kernel
theorem dX3_passUncounted_24 : decode cX3_passUncounted 24 = .ok (.invokevirtual 104, 3) := by decide +kernel
theorem dX3_passUncounted_27 : decode cX3_passUncounted 27 = .ok (.iadd, 1) := by decide +kernel
theorem dX3_passUncounted_28 : decode cX3_passUncounted 28 = .ok (.invokevirtual 111, 3) := by decide +kernel
theorem dX3_passUncounted_31 : decode cX3_passUncounted 31 = .ok (.iastore, 1) := by decide +kernel
theorem dX3_passUncounted_32 : decode cX3_passUncounted 32 = .ok (.iinc 1 1, 3) := by decide +kernel
theorem dX3_passUncounted_35 : decode cX3_passUncounted 35 = .ok (.goto (-33), 3) := by decide +kernel
theorem dX3_passUncounted_38 : decode cX3_passUncounted 38 = .ok (.aload_n 0, 1) := by decide +kernel
theorem dX3_passUncounted_39 : decode cX3_passUncounted 39 = .ok (.dup, 1) := by decide +kernel
theorem dX3_passUncounted_40 : decode cX3_passUncounted 40 = .ok (.getfield 15, 3) := by decide +kernel
theorem dX3_passUncounted_43 : decode cX3_passUncounted 43 = .ok (.iconst 1, 1) := by decide +kernel
theorem dX3_passUncounted_44 : decode cX3_passUncounted 44 = .ok (.iadd, 1) := by decide +kernel
theorem dX3_passUncounted_45 : decode cX3_passUncounted 45 = .ok (.putfield 15, 3) := by decide +kernel
theorem dX3_passUncounted_48 : decode cX3_passUncounted 48 = .ok (.return_, 1) := by decide +kernel
set_option maxRecDepth 20000 in
theorem ggX3_meetingBy_X3_passUncounted : GoodIn wsX3_meetingBy wsX3_passUncounted := goodIn_r _ [6, 7, 1, 8, 9, 10, 11, 5, 12, 13, 14, 15, 16, 17, 18, 19, 20, 21, 22, 23, 24, 25, 26, 27, 28, 29, 30, 31, 32, 33, 34, 35, 36, 37, 38, 39, 40, 41, 42] (by decide +kernel) (by decide +kernel)
set_option maxRecDepth 20000 in
theorem gX3_meetingBy_X3_passUncounted : GoodIn wsX3_meetingBy (wsV RX3 120 RX3 yX3_passUncounted wsX3_passUncounted) := goodIn_app (goodIn_of _ (by decide +kernel)) ggX3_meetingBy_X3_passUncounted
theorem dX3_meetingBy_0 : decode cX3_meetingBy 0 = .ok (.iconst 0, 1) := by decide +kernel
theorem dX3_meetingBy_1 : decode cX3_meetingBy 1 = .ok (.istore 4, 2) := by decide +kernel
theorem dX3_meetingBy_3 : decode cX3_meetingBy 3 = .ok (.iload 4, 2) := by decide +kernel
theorem dX3_meetingBy_5 : decode cX3_meetingBy 5 = .ok (.iload_n 3, 1) := by decide +kernel
theorem dX3_meetingBy_6 : decode cX3_meetingBy 6 = .ok (.if_icmp .gt 31, 3) := by decide +kernel
theorem dX3_meetingBy_9 : decode cX3_meetingBy 9 = .ok (.aload_n 0, 1) := by decide +kernel
theorem dX3_meetingBy_10 : decode cX3_meetingBy 10 = .ok (.getfield 28, 3) := by decide +kernel
theorem dX3_meetingBy_13 : decode cX3_meetingBy 13 = .ok (.iload_n 1, 1) := by decide +kernel
theorem dX3_meetingBy_14 : decode cX3_meetingBy 14 = .ok (.iaload, 1) := by decide +kernel
theorem dX3_meetingBy_15 : decode cX3_meetingBy 15 = .ok (.aload_n 0, 1) := by decide +kernel
theorem dX3_meetingBy_16 : decode cX3_meetingBy 16 = .ok (.getfield 28, 3) := by decide +kernel
theorem dX3_meetingBy_19 : decode cX3_meetingBy 19 = .ok (.iload_n 2, 1) := by decide +kernel
theorem dX3_meetingBy_20 : decode cX3_meetingBy 20 = .ok (.iaload, 1) := by decide +kernel
theorem dX3_meetingBy_21 : decode cX3_meetingBy 21 = .ok (.if_icmp .ne 6, 3) := by decide +kernel
theorem dX3_meetingBy_24 : decode cX3_meetingBy 24 = .ok (.iload 4, 2) := by decide +kernel
theorem dX3_meetingBy_26 : decode cX3_meetingBy 26 = .ok (.ireturn, 1) := by decide +kernel
theorem dX3_meetingBy_27 : decode cX3_meetingBy 27 = .ok (.aload_n 0, 1) := by decide +kernel
theorem dX3_meetingBy_28 : decode cX3_meetingBy 28 = .ok (.invokevirtual 120, 3) := by decide +kernel
theorem dX3_meetingBy_31 : decode cX3_meetingBy 31 = .ok (.iinc 4 1, 3) := by decide +kernel
theorem dX3_meetingBy_34 : decode cX3_meetingBy 34 = .ok (.goto (-31), 3) := by decide +kernel
theorem dX3_meetingBy_37 : decode cX3_meetingBy 37 = .ok (.iconst (-1), 1) := by decide +kernel
theorem dX3_meetingBy_38 : decode cX3_meetingBy 38 = .ok (.ireturn, 1) := by decide +kernel
theorem dX3_draw_0 : decode cX3_draw 0 = .ok (.aload_n 0, 1) := by decide +kernel
theorem dX3_draw_1 : decode cX3_draw 1 = .ok (.aload_n 0, 1) := by decide +kernel
theorem dX3_draw_2 : decode cX3_draw 2 = .ok (.getfield 44, 3) := by decide +kernel
theorem dX3_draw_5 : decode cX3_draw 5 = .ok (.ldc 123, 2) := by decide +kernel
theorem dX3_draw_7 : decode cX3_draw 7 = .ok (.imul, 1) := by decide +kernel
theorem dX3_draw_8 : decode cX3_draw 8 = .ok (.sipush 12345, 3) := by decide +kernel
theorem dX3_draw_11 : decode cX3_draw 11 = .ok (.iadd, 1) := by decide +kernel
theorem dX3_draw_12 : decode cX3_draw 12 = .ok (.putfield 44, 3) := by decide +kernel
theorem dX3_draw_15 : decode cX3_draw 15 = .ok (.aload_n 0, 1) := by decide +kernel
theorem dX3_draw_16 : decode cX3_draw 16 = .ok (.getfield 44, 3) := by decide +kernel
theorem dX3_draw_19 : decode cX3_draw 19 = .ok (.bipush 8, 2) := by decide +kernel
theorem dX3_draw_21 : decode cX3_draw 21 = .ok (.iushr, 1) := by decide +kernel
theorem dX3_draw_22 : decode cX3_draw 22 = .ok (.ireturn, 1) := by decide +kernel
set_option maxRecDepth 20000 in
theorem ggX3_drift_X3_draw : GoodIn wsX3_drift wsX3_draw := goodIn_r _ [8, 9, 10, 11, 12, 13, 14, 15, 16, 17, 18, 19, 20, 21, 22, 23, 24, 25, 26] (by decide +kernel) (by decide +kernel)
set_option maxRecDepth 20000 in
theorem gX3_drift_X3_draw : GoodIn wsX3_drift (wsV RX3 124 RX3 yX3_draw wsX3_draw) := goodIn_app (goodIn_of _ (by decide +kernel)) ggX3_drift_X3_draw
theorem dX3_drift_0 : decode cX3_drift 0 = .ok (.aload_n 0, 1) := by decide +kernel
theorem dX3_drift_1 : decode cX3_drift 1 = .ok (.getfield 19, 3) := by decide +kernel
theorem dX3_drift_4 : decode cX3_drift 4 = .ok (.ifCond .le 35, 3) := by decide +kernel
theorem dX3_drift_7 : decode cX3_drift 7 = .ok (.aload_n 0, 1) := by decide +kernel
theorem dX3_drift_8 : decode cX3_drift 8 = .ok (.getfield 63, 3) := by decide +kernel
theorem dX3_drift_11 : decode cX3_drift 11 = .ok (.ifCond .le 28, 3) := by decide +kernel
theorem dX3_drift_14 : decode cX3_drift 14 = .ok (.aload_n 0, 1) := by decide +kernel
theorem dX3_drift_15 : decode cX3_drift 15 = .ok (.invokevirtual 124, 3) := by decide +kernel
theorem dX3_drift_18 : decode cX3_drift 18 = .ok (.aload_n 0, 1) := by decide +kernel
theorem dX3_drift_19 : decode cX3_drift 19 = .ok (.getfield 19, 3) := by decide +kernel
theorem dX3_drift_22 : decode cX3_drift 22 = .ok (.irem, 1) := by decide +kernel
theorem dX3_drift_23 : decode cX3_drift 23 = .ok (.istore_n 1, 1) := by decide +kernel
theorem dX3_drift_24 : decode cX3_drift 24 = .ok (.aload_n 0, 1) := by decide +kernel
theorem dX3_drift_25 : decode cX3_drift 25 = .ok (.getfield 28, 3) := by decide +kernel
theorem dX3_drift_28 : decode cX3_drift 28 = .ok (.iload_n 1, 1) := by decide +kernel
theorem dX3_drift_29 : decode cX3_drift 29 = .ok (.aload_n 0, 1) := by decide +kernel
theorem dX3_drift_30 : decode cX3_drift 30 = .ok (.invokevirtual 124, 3) := by decide +kernel
theorem dX3_drift_33 : decode cX3_drift 33 = .ok (.aload_n 0, 1) := by decide +kernel
theorem dX3_drift_34 : decode cX3_drift 34 = .ok (.getfield 63, 3) := by decide +kernel
theorem dX3_drift_37 : decode cX3_drift 37 = .ok (.irem, 1) := by decide +kernel
theorem dX3_drift_38 : decode cX3_drift 38 = .ok (.iastore, 1) := by decide +kernel
theorem dX3_drift_39 : decode cX3_drift 39 = .ok (.return_, 1) := by decide +kernel
set_option maxRecDepth 20000 in
theorem ggX3_copyWalk_X0_copy : GoodIn wsX3_copyWalk wsX0_copy := goodIn_r _ [19, 20, 21, 22, 4, 5, 6, 39, 40, 41] (by decide +kernel) (by decide +kernel)
set_option maxRecDepth 20000 in
theorem gX3_copyWalk_X0_copy_n134 : GoodIn wsX3_copyWalk (wsX0_copy) := ggX3_copyWalk_X0_copy
theorem dX3_copyWalk_0 : decode cX3_copyWalk 0 = .ok (.aload_n 0, 1) := by decide +kernel
theorem dX3_copyWalk_1 : decode cX3_copyWalk 1 = .ok (.aload_n 1, 1) := by decide +kernel
theorem dX3_copyWalk_2 : decode cX3_copyWalk 2 = .ok (.getfield 63, 3) := by decide +kernel
theorem dX3_copyWalk_5 : decode cX3_copyWalk 5 = .ok (.putfield 63, 3) := by decide +kernel
theorem dX3_copyWalk_8 : decode cX3_copyWalk 8 = .ok (.aload_n 1, 1) := by decide +kernel
theorem dX3_copyWalk_9 : decode cX3_copyWalk 9 = .ok (.getfield 9, 3) := by decide +kernel
theorem dX3_copyWalk_12 : decode cX3_copyWalk 12 = .ok (.iconst 0, 1) := by decide +kernel
theorem dX3_copyWalk_13 : decode cX3_copyWalk 13 = .ok (.aload_n 0, 1) := by decide +kernel
theorem dX3_copyWalk_14 : decode cX3_copyWalk 14 = .ok (.getfield 9, 3) := by decide +kernel
theorem dX3_copyWalk_17 : decode cX3_copyWalk 17 = .ok (.iconst 0, 1) := by decide +kernel
theorem dX3_copyWalk_18 : decode cX3_copyWalk 18 = .ok (.bipush 14, 2) := by decide +kernel
theorem dX3_copyWalk_20 : decode cX3_copyWalk 20 = .ok (.invokestatic 128, 3) := by decide +kernel
theorem dX3_copyWalk_23 : decode cX3_copyWalk 23 = .ok (.aload_n 0, 1) := by decide +kernel
theorem dX3_copyWalk_24 : decode cX3_copyWalk 24 = .ok (.aload_n 1, 1) := by decide +kernel
theorem dX3_copyWalk_25 : decode cX3_copyWalk 25 = .ok (.getfield 66, 3) := by decide +kernel
theorem dX3_copyWalk_28 : decode cX3_copyWalk 28 = .ok (.putfield 66, 3) := by decide +kernel
theorem dX3_copyWalk_31 : decode cX3_copyWalk 31 = .ok (.aload_n 0, 1) := by decide +kernel
theorem dX3_copyWalk_32 : decode cX3_copyWalk 32 = .ok (.aload_n 1, 1) := by decide +kernel
theorem dX3_copyWalk_33 : decode cX3_copyWalk 33 = .ok (.getfield 15, 3) := by decide +kernel
theorem dX3_copyWalk_36 : decode cX3_copyWalk 36 = .ok (.putfield 15, 3) := by decide +kernel
theorem dX3_copyWalk_39 : decode cX3_copyWalk 39 = .ok (.aload_n 0, 1) := by decide +kernel
theorem dX3_copyWalk_40 : decode cX3_copyWalk 40 = .ok (.aload_n 1, 1) := by decide +kernel
theorem dX3_copyWalk_41 : decode cX3_copyWalk 41 = .ok (.getfield 19, 3) := by decide +kernel
theorem dX3_copyWalk_44 : decode cX3_copyWalk 44 = .ok (.putfield 19, 3) := by decide +kernel
theorem dX3_copyWalk_47 : decode cX3_copyWalk 47 = .ok (.aload_n 1, 1) := by decide +kernel
theorem dX3_copyWalk_48 : decode cX3_copyWalk 48 = .ok (.getfield 22, 3) := by decide +kernel
theorem dX3_copyWalk_51 : decode cX3_copyWalk 51 = .ok (.iconst 0, 1) := by decide +kernel
theorem dX3_copyWalk_52 : decode cX3_copyWalk 52 = .ok (.aload_n 0, 1) := by decide +kernel
theorem dX3_copyWalk_53 : decode cX3_copyWalk 53 = .ok (.getfield 22, 3) := by decide +kernel
theorem dX3_copyWalk_56 : decode cX3_copyWalk 56 = .ok (.iconst 0, 1) := by decide +kernel
theorem dX3_copyWalk_57 : decode cX3_copyWalk 57 = .ok (.bipush 6, 2) := by decide +kernel
theorem dX3_copyWalk_59 : decode cX3_copyWalk 59 = .ok (.invokestatic 128, 3) := by decide +kernel
theorem dX3_copyWalk_62 : decode cX3_copyWalk 62 = .ok (.aload_n 1, 1) := by decide +kernel
theorem dX3_copyWalk_63 : decode cX3_copyWalk 63 = .ok (.getfield 25, 3) := by decide +kernel
theorem dX3_copyWalk_66 : decode cX3_copyWalk 66 = .ok (.iconst 0, 1) := by decide +kernel
theorem dX3_copyWalk_67 : decode cX3_copyWalk 67 = .ok (.aload_n 0, 1) := by decide +kernel
theorem dX3_copyWalk_68 : decode cX3_copyWalk 68 = .ok (.getfield 25, 3) := by decide +kernel
theorem dX3_copyWalk_71 : decode cX3_copyWalk 71 = .ok (.iconst 0, 1) := by decide +kernel
theorem dX3_copyWalk_72 : decode cX3_copyWalk 72 = .ok (.bipush 6, 2) := by decide +kernel
theorem dX3_copyWalk_74 : decode cX3_copyWalk 74 = .ok (.invokestatic 128, 3) := by decide +kernel
theorem dX3_copyWalk_77 : decode cX3_copyWalk 77 = .ok (.aload_n 1, 1) := by decide +kernel
theorem dX3_copyWalk_78 : decode cX3_copyWalk 78 = .ok (.getfield 28, 3) := by decide +kernel
theorem dX3_copyWalk_81 : decode cX3_copyWalk 81 = .ok (.iconst 0, 1) := by decide +kernel
theorem dX3_copyWalk_82 : decode cX3_copyWalk 82 = .ok (.aload_n 0, 1) := by decide +kernel
theorem dX3_copyWalk_83 : decode cX3_copyWalk 83 = .ok (.getfield 28, 3) := by decide +kernel
theorem dX3_copyWalk_86 : decode cX3_copyWalk 86 = .ok (.iconst 0, 1) := by decide +kernel
theorem dX3_copyWalk_87 : decode cX3_copyWalk 87 = .ok (.bipush 6, 2) := by decide +kernel
theorem dX3_copyWalk_89 : decode cX3_copyWalk 89 = .ok (.invokestatic 128, 3) := by decide +kernel
theorem dX3_copyWalk_92 : decode cX3_copyWalk 92 = .ok (.aload_n 1, 1) := by decide +kernel
theorem dX3_copyWalk_93 : decode cX3_copyWalk 93 = .ok (.getfield 31, 3) := by decide +kernel
theorem dX3_copyWalk_96 : decode cX3_copyWalk 96 = .ok (.iconst 0, 1) := by decide +kernel
theorem dX3_copyWalk_97 : decode cX3_copyWalk 97 = .ok (.aload_n 0, 1) := by decide +kernel
theorem dX3_copyWalk_98 : decode cX3_copyWalk 98 = .ok (.getfield 31, 3) := by decide +kernel
theorem dX3_copyWalk_101 : decode cX3_copyWalk 101 = .ok (.iconst 0, 1) := by decide +kernel
theorem dX3_copyWalk_102 : decode cX3_copyWalk 102 = .ok (.bipush 6, 2) := by decide +kernel
theorem dX3_copyWalk_104 : decode cX3_copyWalk 104 = .ok (.invokestatic 128, 3) := by decide +kernel
theorem dX3_copyWalk_107 : decode cX3_copyWalk 107 = .ok (.aload_n 0, 1) := by decide +kernel
theorem dX3_copyWalk_108 : decode cX3_copyWalk 108 = .ok (.getfield 37, 3) := by decide +kernel
theorem dX3_copyWalk_111 : decode cX3_copyWalk 111 = .ok (.aload_n 1, 1) := by decide +kernel
theorem dX3_copyWalk_112 : decode cX3_copyWalk 112 = .ok (.getfield 37, 3) := by decide +kernel
theorem dX3_copyWalk_115 : decode cX3_copyWalk 115 = .ok (.invokevirtual 134, 3) := by decide +kernel
theorem dX3_copyWalk_118 : decode cX3_copyWalk 118 = .ok (.aload_n 0, 1) := by decide +kernel
theorem dX3_copyWalk_119 : decode cX3_copyWalk 119 = .ok (.getfield 41, 3) := by decide +kernel
theorem dX3_copyWalk_122 : decode cX3_copyWalk 122 = .ok (.aload_n 1, 1) := by decide +kernel
theorem dX3_copyWalk_123 : decode cX3_copyWalk 123 = .ok (.getfield 41, 3) := by decide +kernel
theorem dX3_copyWalk_126 : decode cX3_copyWalk 126 = .ok (.invokevirtual 134, 3) := by decide +kernel
theorem dX3_copyWalk_129 : decode cX3_copyWalk 129 = .ok (.return_, 1) := by decide +kernel
set_option maxRecDepth 20000 in
theorem ggX3_copyAll_X3_copyWalk : GoodIn wsX3_copyAll wsX3_copyWalk := goodIn_r _ [14, 15, 16, 3, 4, 5, 6, 17, 18, 19, 20, 21, 22, 23, 24, 25, 26, 27, 28, 29, 30, 31, 32, 33, 34, 35, 36, 37, 38, 39, 40, 41, 42, 43, 44, 45, 46, 47, 48, 49, 50, 51] (by decide +kernel) (by decide +kernel)
set_option maxRecDepth 20000 in
theorem gX3_copyAll_X3_copyWalk : GoodIn wsX3_copyAll (wsV RX3 138 RX3 yX3_copyWalk wsX3_copyWalk) := goodIn_app (goodIn_of _ (by decide +kernel)) ggX3_copyAll_X3_copyWalk
theorem dX3_copyAll_0 : decode cX3_copyAll 0 = .ok (.aload_n 0, 1) := by decide +kernel
theorem dX3_copyAll_1 : decode cX3_copyAll 1 = .ok (.aload_n 1, 1) := by decide +kernel
theorem dX3_copyAll_2 : decode cX3_copyAll 2 = .ok (.invokevirtual 138, 3) := by decide +kernel
theorem dX3_copyAll_5 : decode cX3_copyAll 5 = .ok (.aload_n 0, 1) := by decide +kernel
theorem dX3_copyAll_6 : decode cX3_copyAll 6 = .ok (.aload_n 1, 1) := by decide +kernel
theorem dX3_copyAll_7 : decode cX3_copyAll 7 = .ok (.getfield 44, 3) := by decide +kernel
theorem dX3_copyAll_10 : decode cX3_copyAll 10 = .ok (.putfield 44, 3) := by decide +kernel
theorem dX3_copyAll_13 : decode cX3_copyAll 13 = .ok (.aload_n 1, 1) := by decide +kernel
theorem dX3_copyAll_14 : decode cX3_copyAll 14 = .ok (.getfield 47, 3) := by decide +kernel
theorem dX3_copyAll_17 : decode cX3_copyAll 17 = .ok (.iconst 0, 1) := by decide +kernel
theorem dX3_copyAll_18 : decode cX3_copyAll 18 = .ok (.aload_n 0, 1) := by decide +kernel
theorem dX3_copyAll_19 : decode cX3_copyAll 19 = .ok (.getfield 47, 3) := by decide +kernel
theorem dX3_copyAll_22 : decode cX3_copyAll 22 = .ok (.iconst 0, 1) := by decide +kernel
theorem dX3_copyAll_23 : decode cX3_copyAll 23 = .ok (.bipush 60, 2) := by decide +kernel
theorem dX3_copyAll_25 : decode cX3_copyAll 25 = .ok (.invokestatic 128, 3) := by decide +kernel
theorem dX3_copyAll_28 : decode cX3_copyAll 28 = .ok (.aload_n 0, 1) := by decide +kernel
theorem dX3_copyAll_29 : decode cX3_copyAll 29 = .ok (.aload_n 1, 1) := by decide +kernel
theorem dX3_copyAll_30 : decode cX3_copyAll 30 = .ok (.getfield 50, 3) := by decide +kernel
theorem dX3_copyAll_33 : decode cX3_copyAll 33 = .ok (.putfield 50, 3) := by decide +kernel
theorem dX3_copyAll_36 : decode cX3_copyAll 36 = .ok (.aload_n 1, 1) := by decide +kernel
theorem dX3_copyAll_37 : decode cX3_copyAll 37 = .ok (.getfield 53, 3) := by decide +kernel
theorem dX3_copyAll_40 : decode cX3_copyAll 40 = .ok (.iconst 0, 1) := by decide +kernel
theorem dX3_copyAll_41 : decode cX3_copyAll 41 = .ok (.aload_n 0, 1) := by decide +kernel
theorem dX3_copyAll_42 : decode cX3_copyAll 42 = .ok (.getfield 53, 3) := by decide +kernel
theorem dX3_copyAll_45 : decode cX3_copyAll 45 = .ok (.iconst 0, 1) := by decide +kernel
theorem dX3_copyAll_46 : decode cX3_copyAll 46 = .ok (.bipush 24, 2) := by decide +kernel
theorem dX3_copyAll_48 : decode cX3_copyAll 48 = .ok (.invokestatic 128, 3) := by decide +kernel
theorem dX3_copyAll_51 : decode cX3_copyAll 51 = .ok (.aload_n 0, 1) := by decide +kernel
theorem dX3_copyAll_52 : decode cX3_copyAll 52 = .ok (.aload_n 1, 1) := by decide +kernel
theorem dX3_copyAll_53 : decode cX3_copyAll 53 = .ok (.getfield 56, 3) := by decide +kernel
theorem dX3_copyAll_56 : decode cX3_copyAll 56 = .ok (.putfield 56, 3) := by decide +kernel
theorem dX3_copyAll_59 : decode cX3_copyAll 59 = .ok (.return_, 1) := by decide +kernel
theorem dX4_init_0 : decode cX4_init 0 = .ok (.aload_n 0, 1) := by decide +kernel
theorem dX4_init_1 : decode cX4_init 1 = .ok (.invokespecial 3, 3) := by decide +kernel
theorem dX4_init_4 : decode cX4_init 4 = .ok (.aload_n 0, 1) := by decide +kernel
theorem dX4_init_5 : decode cX4_init 5 = .ok (.bipush 30, 2) := by decide +kernel
theorem dX4_init_7 : decode cX4_init 7 = .ok (.newarray .int, 2) := by decide +kernel
theorem dX4_init_9 : decode cX4_init 9 = .ok (.putfield 9, 3) := by decide +kernel
theorem dX4_init_12 : decode cX4_init 12 = .ok (.aload_n 0, 1) := by decide +kernel
theorem dX4_init_13 : decode cX4_init 13 = .ok (.iconst 0, 1) := by decide +kernel
theorem dX4_init_14 : decode cX4_init 14 = .ok (.putfield 15, 3) := by decide +kernel
theorem dX4_init_17 : decode cX4_init 17 = .ok (.aload_n 0, 1) := by decide +kernel
theorem dX4_init_18 : decode cX4_init 18 = .ok (.iconst 0, 1) := by decide +kernel
theorem dX4_init_19 : decode cX4_init 19 = .ok (.putfield 19, 3) := by decide +kernel
theorem dX4_init_22 : decode cX4_init 22 = .ok (.aload_n 0, 1) := by decide +kernel
theorem dX4_init_23 : decode cX4_init 23 = .ok (.iconst 0, 1) := by decide +kernel
theorem dX4_init_24 : decode cX4_init 24 = .ok (.putfield 23, 3) := by decide +kernel
theorem dX4_init_27 : decode cX4_init 27 = .ok (.aload_n 0, 1) := by decide +kernel
theorem dX4_init_28 : decode cX4_init 28 = .ok (.iconst 0, 1) := by decide +kernel
theorem dX4_init_29 : decode cX4_init 29 = .ok (.putfield 26, 3) := by decide +kernel
theorem dX4_init_32 : decode cX4_init 32 = .ok (.aload_n 0, 1) := by decide +kernel
theorem dX4_init_33 : decode cX4_init 33 = .ok (.iconst 0, 1) := by decide +kernel
theorem dX4_init_34 : decode cX4_init 34 = .ok (.putfield 29, 3) := by decide +kernel
theorem dX4_init_37 : decode cX4_init 37 = .ok (.return_, 1) := by decide +kernel
set_option maxRecDepth 20000 in
theorem ggX4_speak_X4_say : GoodIn wsX4_speak wsX4_say := goodIn_r _ [10, 5, 11, 12, 9, 13, 14, 15, 16, 17, 18, 19, 20, 21, 4, 22, 23, 24, 25, 26, 2, 1, 3, 6, 7, 8, 27, 28, 29, 30, 31, 32, 33, 34, 35, 36] (by decide +kernel) (by decide +kernel)
set_option maxRecDepth 20000 in
theorem gX4_speak_X4_say : GoodIn wsX4_speak (wsV RX4 32 RX4 yX4_say wsX4_say) := goodIn_app (goodIn_of _ (by decide +kernel)) ggX4_speak_X4_say
theorem dX4_speak_0 : decode cX4_speak 0 = .ok (.aload_n 0, 1) := by decide +kernel
theorem dX4_speak_1 : decode cX4_speak 1 = .ok (.iload_n 1, 1) := by decide +kernel
theorem dX4_speak_2 : decode cX4_speak 2 = .ok (.putfield 23, 3) := by decide +kernel
theorem dX4_speak_5 : decode cX4_speak 5 = .ok (.aload_n 0, 1) := by decide +kernel
theorem dX4_speak_6 : decode cX4_speak 6 = .ok (.iload_n 2, 1) := by decide +kernel
theorem dX4_speak_7 : decode cX4_speak 7 = .ok (.putfield 26, 3) := by decide +kernel
theorem dX4_speak_10 : decode cX4_speak 10 = .ok (.aload_n 0, 1) := by decide +kernel
theorem dX4_speak_11 : decode cX4_speak 11 = .ok (.iload_n 3, 1) := by decide +kernel
theorem dX4_speak_12 : decode cX4_speak 12 = .ok (.putfield 29, 3) := by decide +kernel
theorem dX4_speak_15 : decode cX4_speak 15 = .ok (.aload_n 0, 1) := by decide +kernel
theorem dX4_speak_16 : decode cX4_speak 16 = .ok (.iconst 0, 1) := by decide +kernel
theorem dX4_speak_17 : decode cX4_speak 17 = .ok (.putfield 15, 3) := by decide +kernel
theorem dX4_speak_20 : decode cX4_speak 20 = .ok (.aload_n 0, 1) := by decide +kernel
theorem dX4_speak_21 : decode cX4_speak 21 = .ok (.iconst 0, 1) := by decide +kernel
theorem dX4_speak_22 : decode cX4_speak 22 = .ok (.putfield 19, 3) := by decide +kernel
theorem dX4_speak_25 : decode cX4_speak 25 = .ok (.aload_n 0, 1) := by decide +kernel
theorem dX4_speak_26 : decode cX4_speak 26 = .ok (.aload_n 0, 1) := by decide +kernel
theorem dX4_speak_27 : decode cX4_speak 27 = .ok (.getfield 23, 3) := by decide +kernel
theorem dX4_speak_30 : decode cX4_speak 30 = .ok (.iload 4, 2) := by decide +kernel
theorem dX4_speak_32 : decode cX4_speak 32 = .ok (.iload 5, 2) := by decide +kernel
theorem dX4_speak_34 : decode cX4_speak 34 = .ok (.iconst 0, 1) := by decide +kernel
theorem dX4_speak_35 : decode cX4_speak 35 = .ok (.invokevirtual 32, 3) := by decide +kernel
theorem dX4_speak_38 : decode cX4_speak 38 = .ok (.ireturn, 1) := by decide +kernel
set_option maxRecDepth 20000 in
theorem ggX4_say_X4_find : GoodIn wsX4_say wsX4_find := goodIn_r _ [5, 6, 7, 8, 9] (by decide +kernel) (by decide +kernel)
set_option maxRecDepth 20000 in
theorem gX4_say_X4_find : GoodIn wsX4_say (va_wsS RX4 36 yX4_find wsX4_find) := goodIn_app (goodIn_of _ (by decide +kernel)) ggX4_say_X4_find
set_option maxRecDepth 20000 in
theorem ggX4_say_X4_begin : GoodIn wsX4_say wsX4_begin := goodIn_r _ [13, 14, 15, 30, 31, 32, 33, 34, 35] (by decide +kernel) (by decide +kernel)
set_option maxRecDepth 20000 in
theorem gX4_say_X4_begin : GoodIn wsX4_say (wsV RX4 40 RX4 yX4_begin wsX4_begin) := goodIn_app (goodIn_of _ (by decide +kernel)) ggX4_say_X4_begin
set_option maxRecDepth 20000 in
theorem ggX4_say_X4_sayBody : GoodIn wsX4_say wsX4_sayBody := goodIn_r _ [19, 20, 21, 22, 23, 24, 25, 4, 26, 27, 28, 29, 1, 0, 2, 3, 5, 6, 7, 8, 9, 10, 11, 12, 13, 14, 15, 16, 17, 18, 30, 31, 32, 33, 34, 35] (by decide +kernel) (by decide +kernel)
set_option maxRecDepth 20000 in
theorem gX4_say_X4_sayBody : GoodIn wsX4_say (wsV RX4 44 RX4 yX4_sayBody wsX4_sayBody) := goodIn_app (goodIn_of _ (by decide +kernel)) ggX4_say_X4_sayBody
theorem dX4_say_0 : decode cX4_say 0 = .ok (.aload_n 0, 1) := by decide +kernel
theorem dX4_say_1 : decode cX4_say 1 = .ok (.getfield 19, 3) := by decide +kernel
theorem dX4_say_4 : decode cX4_say 4 = .ok (.ifCond .ne 10, 3) := by decide +kernel
theorem dX4_say_7 : decode cX4_say 7 = .ok (.iload 4, 2) := by decide +kernel
theorem dX4_say_9 : decode cX4_say 9 = .ok (.bipush 40, 2) := by decide +kernel
theorem dX4_say_11 : decode cX4_say 11 = .ok (.if_icmp .le 5, 3) := by decide +kernel
theorem dX4_say_14 : decode cX4_say 14 = .ok (.iconst 0, 1) := by decide +kernel
theorem dX4_say_15 : decode cX4_say 15 = .ok (.ireturn, 1) := by decide +kernel
theorem dX4_say_16 : decode cX4_say 16 = .ok (.iload_n 1, 1) := by decide +kernel
theorem dX4_say_17 : decode cX4_say 17 = .ok (.iload_n 2, 1) := by decide +kernel
theorem dX4_say_18 : decode cX4_say 18 = .ok (.invokestatic 36, 3) := by decide +kernel
theorem dX4_say_21 : decode cX4_say 21 = .ok (.istore 5, 2) := by decide +kernel
theorem dX4_say_23 : decode cX4_say 23 = .ok (.aload_n 0, 1) := by decide +kernel
theorem dX4_say_24 : decode cX4_say 24 = .ok (.iload 5, 2) := by decide +kernel
theorem dX4_say_26 : decode cX4_say 26 = .ok (.invokevirtual 40, 3) := by decide +kernel
theorem dX4_say_29 : decode cX4_say 29 = .ok (.aload_n 0, 1) := by decide +kernel
theorem dX4_say_30 : decode cX4_say 30 = .ok (.iload 5, 2) := by decide +kernel
theorem dX4_say_32 : decode cX4_say 32 = .ok (.iload_n 3, 1) := by decide +kernel
theorem dX4_say_33 : decode cX4_say 33 = .ok (.iload 4, 2) := by decide +kernel
theorem dX4_say_35 : decode cX4_say 35 = .ok (.iconst 1, 1) := by decide +kernel
theorem dX4_say_36 : decode cX4_say 36 = .ok (.iadd, 1) := by decide +kernel
theorem dX4_say_37 : decode cX4_say 37 = .ok (.invokevirtual 44, 3) := by decide +kernel
theorem dX4_say_40 : decode cX4_say 40 = .ok (.ireturn, 1) := by decide +kernel
set_option maxRecDepth 20000 in
theorem ggX4_sayBody_X4_say : GoodIn wsX4_sayBody wsX4_say := goodIn_r _ [13, 12, 14, 15, 7, 16, 17, 18, 19, 20, 21, 22, 23, 24, 25, 26, 27, 28, 29, 0, 1, 2, 3, 4, 5, 6, 8, 9, 10, 11, 30, 31, 32, 33, 34, 35] (by decide +kernel) (by decide +kernel)
set_option maxRecDepth 20000 in
theorem gX4_sayBody_X4_say : GoodIn wsX4_sayBody (wsV RX4 32 RX4 yX4_say wsX4_say) := goodIn_app (goodIn_of _ (by decide +kernel)) ggX4_sayBody_X4_say
set_option maxRecDepth 20000 in
theorem ggX4_sayBody_X4_part : GoodIn wsX4_sayBody wsX4_part := goodIn_r _ [11, 3, 1, 12, 30, 31, 32, 33, 34, 35] (by decide +kernel) (by decide +kernel)
set_option maxRecDepth 20000 in
theorem gX4_sayBody_X4_part : GoodIn wsX4_sayBody (wsV RX4 48 RX4 yX4_part wsX4_part) := goodIn_app (goodIn_of _ (by decide +kernel)) ggX4_sayBody_X4_part
theorem dX4_sayBody_0 : decode cX4_sayBody 0 = .ok (.iload_n 1, 1) := by decide +kernel
theorem dX4_sayBody_1 : decode cX4_sayBody 1 = .ok (.lookupswitch 266 #[(10, 115), (11, 122), (12, 136), (13, 153), (20, 159), (21, 170), (30, 191), (40, 202), (50, 213), (51, 224), (60, 238), (70, 249), (71, 252)], 115) := by decide +kernel
theorem dX4_sayBody_116 : decode cX4_sayBody 116 = .ok (.iload_n 2, 1) := by decide +kernel
theorem dX4_sayBody_117 : decode cX4_sayBody 117 = .ok (.aload_n 0, 1) := by decide +kernel
theorem dX4_sayBody_118 : decode cX4_sayBody 118 = .ok (.getfield 26, 3) := by decide +kernel
theorem dX4_sayBody_121 : decode cX4_sayBody 121 = .ok (.iadd, 1) := by decide +kernel
theorem dX4_sayBody_122 : decode cX4_sayBody 122 = .ok (.ireturn, 1) := by decide +kernel
theorem dX4_sayBody_123 : decode cX4_sayBody 123 = .ok (.aload_n 0, 1) := by decide +kernel
theorem dX4_sayBody_124 : decode cX4_sayBody 124 = .ok (.aload_n 0, 1) := by decide +kernel
theorem dX4_sayBody_125 : decode cX4_sayBody 125 = .ok (.getfield 23, 3) := by decide +kernel
theorem dX4_sayBody_128 : decode cX4_sayBody 128 = .ok (.iconst 0, 1) := by decide +kernel
theorem dX4_sayBody_129 : decode cX4_sayBody 129 = .ok (.iload_n 2, 1) := by decide +kernel
theorem dX4_sayBody_130 : decode cX4_sayBody 130 = .ok (.iload_n 3, 1) := by decide +kernel
theorem dX4_sayBody_131 : decode cX4_sayBody 131 = .ok (.invokevirtual 32, 3) := by decide +kernel
theorem dX4_sayBody_134 : decode cX4_sayBody 134 = .ok (.iconst 2, 1) := by decide +kernel
theorem dX4_sayBody_135 : decode cX4_sayBody 135 = .ok (.imul, 1) := by decide +kernel
theorem dX4_sayBody_136 : decode cX4_sayBody 136 = .ok (.ireturn, 1) := by decide +kernel
theorem dX4_sayBody_137 : decode cX4_sayBody 137 = .ok (.aload_n 0, 1) := by decide +kernel
theorem dX4_sayBody_138 : decode cX4_sayBody 138 = .ok (.aload_n 0, 1) := by decide +kernel
theorem dX4_sayBody_139 : decode cX4_sayBody 139 = .ok (.getfield 23, 3) := by decide +kernel
theorem dX4_sayBody_142 : decode cX4_sayBody 142 = .ok (.iconst 1, 1) := by decide +kernel
theorem dX4_sayBody_143 : decode cX4_sayBody 143 = .ok (.iload_n 2, 1) := by decide +kernel
theorem dX4_sayBody_144 : decode cX4_sayBody 144 = .ok (.iload_n 3, 1) := by decide +kernel
theorem dX4_sayBody_145 : decode cX4_sayBody 145 = .ok (.invokevirtual 32, 3) := by decide +kernel
theorem dX4_sayBody_148 : decode cX4_sayBody 148 = .ok (.aload_n 0, 1) := by decide +kernel
theorem dX4_sayBody_149 : decode cX4_sayBody 149 = .ok (.getfield 29, 3) := by decide +kernel
theorem dX4_sayBody_152 : decode cX4_sayBody 152 = .ok (.isub, 1) := by decide +kernel
theorem dX4_sayBody_153 : decode cX4_sayBody 153 = .ok (.ireturn, 1) := by decide +kernel
theorem dX4_sayBody_154 : decode cX4_sayBody 154 = .ok (.aload_n 0, 1) := by decide +kernel
theorem dX4_sayBody_155 : decode cX4_sayBody 155 = .ok (.iload_n 2, 1) := by decide +kernel
theorem dX4_sayBody_156 : decode cX4_sayBody 156 = .ok (.invokevirtual 48, 3) := by decide +kernel
theorem dX4_sayBody_159 : decode cX4_sayBody 159 = .ok (.ireturn, 1) := by decide +kernel
theorem dX4_sayBody_160 : decode cX4_sayBody 160 = .ok (.aload_n 0, 1) := by decide +kernel
theorem dX4_sayBody_161 : decode cX4_sayBody 161 = .ok (.iconst 0, 1) := by decide +kernel
theorem dX4_sayBody_162 : decode cX4_sayBody 162 = .ok (.iconst 0, 1) := by decide +kernel
theorem dX4_sayBody_163 : decode cX4_sayBody 163 = .ok (.iload_n 2, 1) := by decide +kernel
theorem dX4_sayBody_164 : decode cX4_sayBody 164 = .ok (.iload_n 3, 1) := by decide +kernel
theorem dX4_sayBody_165 : decode cX4_sayBody 165 = .ok (.invokevirtual 32, 3) := by decide +kernel
theorem dX4_sayBody_168 : decode cX4_sayBody 168 = .ok (.iconst 4, 1) := by decide +kernel
theorem dX4_sayBody_169 : decode cX4_sayBody 169 = .ok (.isub, 1) := by decide +kernel
theorem dX4_sayBody_170 : decode cX4_sayBody 170 = .ok (.ireturn, 1) := by decide +kernel
theorem dX4_sayBody_171 : decode cX4_sayBody 171 = .ok (.aload_n 0, 1) := by decide +kernel
theorem dX4_sayBody_172 : decode cX4_sayBody 172 = .ok (.iconst 0, 1) := by decide +kernel
theorem dX4_sayBody_173 : decode cX4_sayBody 173 = .ok (.iconst 3, 1) := by decide +kernel
theorem dX4_sayBody_174 : decode cX4_sayBody 174 = .ok (.iload_n 2, 1) := by decide +kernel
theorem dX4_sayBody_175 : decode cX4_sayBody 175 = .ok (.iload_n 3, 1) := by decide +kernel
theorem dX4_sayBody_176 : decode cX4_sayBody 176 = .ok (.invokevirtual 32, 3) := by decide +kernel
theorem dX4_sayBody_179 : decode cX4_sayBody 179 = .ok (.aload_n 0, 1) := by decide +kernel
theorem dX4_sayBody_180 : decode cX4_sayBody 180 = .ok (.aload_n 0, 1) := by decide +kernel
theorem dX4_sayBody_181 : decode cX4_sayBody 181 = .ok (.getfield 23, 3) := by decide +kernel
theorem dX4_sayBody_184 : decode cX4_sayBody 184 = .ok (.iconst 1, 1) := by decide +kernel
theorem dX4_sayBody_185 : decode cX4_sayBody 185 = .ok (.iconst 1, 1) := by decide +kernel
theorem dX4_sayBody_186 : decode cX4_sayBody 186 = .ok (.iload_n 3, 1) := by decide +kernel
theorem dX4_sayBody_187 : decode cX4_sayBody 187 = .ok (.invokevirtual 32, 3) := by decide +kernel
theorem dX4_sayBody_190 : decode cX4_sayBody 190 = .ok (.iadd, 1) := by decide +kernel
theorem dX4_sayBody_191 : decode cX4_sayBody 191 = .ok (.ireturn, 1) := by decide +kernel
theorem dX4_sayBody_192 : decode cX4_sayBody 192 = .ok (.iconst 0, 1) := by decide +kernel
theorem dX4_sayBody_193 : decode cX4_sayBody 193 = .ok (.aload_n 0, 1) := by decide +kernel
theorem dX4_sayBody_194 : decode cX4_sayBody 194 = .ok (.iconst 0, 1) := by decide +kernel
theorem dX4_sayBody_195 : decode cX4_sayBody 195 = .ok (.iconst 1, 1) := by decide +kernel
theorem dX4_sayBody_196 : decode cX4_sayBody 196 = .ok (.iload_n 2, 1) := by decide +kernel
theorem dX4_sayBody_197 : decode cX4_sayBody 197 = .ok (.iload_n 3, 1) := by decide +kernel
theorem dX4_sayBody_198 : decode cX4_sayBody 198 = .ok (.invokevirtual 32, 3) := by decide +kernel
theorem dX4_sayBody_201 : decode cX4_sayBody 201 = .ok (.isub, 1) := by decide +kernel
theorem dX4_sayBody_202 : decode cX4_sayBody 202 = .ok (.ireturn, 1) := by decide +kernel
theorem dX4_sayBody_203 : decode cX4_sayBody 203 = .ok (.aload_n 0, 1) := by decide +kernel
theorem dX4_sayBody_204 : decode cX4_sayBody 204 = .ok (.iconst 0, 1) := by decide +kernel
theorem dX4_sayBody_205 : decode cX4_sayBody 205 = .ok (.iconst 2, 1) := by decide +kernel
theorem dX4_sayBody_206 : decode cX4_sayBody 206 = .ok (.iload_n 2, 1) := by decide +kernel
theorem dX4_sayBody_207 : decode cX4_sayBody 207 = .ok (.iconst 2, 1) := by decide +kernel
theorem dX4_sayBody_208 : decode cX4_sayBody 208 = .ok (.idiv, 1) := by decide +kernel
theorem dX4_sayBody_209 : decode cX4_sayBody 209 = .ok (.iload_n 3, 1) := by decide +kernel
theorem dX4_sayBody_210 : decode cX4_sayBody 210 = .ok (.invokevirtual 32, 3) := by decide +kernel
theorem dX4_sayBody_213 : decode cX4_sayBody 213 = .ok (.ireturn, 1) := by decide +kernel
theorem dX4_sayBody_214 : decode cX4_sayBody 214 = .ok (.aload_n 0, 1) := by decide +kernel
theorem dX4_sayBody_215 : decode cX4_sayBody 215 = .ok (.iconst 1, 1) := by decide +kernel
theorem dX4_sayBody_216 : decode cX4_sayBody 216 = .ok (.iconst 0, 1) := by decide +kernel
theorem dX4_sayBody_217 : decode cX4_sayBody 217 = .ok (.iload_n 2, 1) := by decide +kernel
theorem dX4_sayBody_218 : decode cX4_sayBody 218 = .ok (.iload_n 3, 1) := by decide +kernel
theorem dX4_sayBody_219 : decode cX4_sayBody 219 = .ok (.invokevirtual 32, 3) := by decide +kernel
theorem dX4_sayBody_222 : decode cX4_sayBody 222 = .ok (.iconst 3, 1) := by decide +kernel
theorem dX4_sayBody_223 : decode cX4_sayBody 223 = .ok (.imul, 1) := by decide +kernel
theorem dX4_sayBody_224 : decode cX4_sayBody 224 = .ok (.ireturn, 1) := by decide +kernel
theorem dX4_sayBody_225 : decode cX4_sayBody 225 = .ok (.aload_n 0, 1) := by decide +kernel
theorem dX4_sayBody_226 : decode cX4_sayBody 226 = .ok (.iconst 1, 1) := by decide +kernel
theorem dX4_sayBody_227 : decode cX4_sayBody 227 = .ok (.iconst 2, 1) := by decide +kernel
theorem dX4_sayBody_228 : decode cX4_sayBody 228 = .ok (.iload_n 2, 1) := by decide +kernel
theorem dX4_sayBody_229 : decode cX4_sayBody 229 = .ok (.iload_n 3, 1) := by decide +kernel
theorem dX4_sayBody_230 : decode cX4_sayBody 230 = .ok (.invokevirtual 32, 3) := by decide +kernel
theorem dX4_sayBody_233 : decode cX4_sayBody 233 = .ok (.aload_n 0, 1) := by decide +kernel
theorem dX4_sayBody_234 : decode cX4_sayBody 234 = .ok (.getfield 26, 3) := by decide +kernel
theorem dX4_sayBody_237 : decode cX4_sayBody 237 = .ok (.ixor, 1) := by decide +kernel
theorem dX4_sayBody_238 : decode cX4_sayBody 238 = .ok (.ireturn, 1) := by decide +kernel
theorem dX4_sayBody_239 : decode cX4_sayBody 239 = .ok (.aload_n 0, 1) := by decide +kernel
theorem dX4_sayBody_240 : decode cX4_sayBody 240 = .ok (.iconst 2, 1) := by decide +kernel
theorem dX4_sayBody_241 : decode cX4_sayBody 241 = .ok (.iconst 1, 1) := by decide +kernel
theorem dX4_sayBody_242 : decode cX4_sayBody 242 = .ok (.iload_n 2, 1) := by decide +kernel
theorem dX4_sayBody_243 : decode cX4_sayBody 243 = .ok (.iconst 1, 1) := by decide +kernel
theorem dX4_sayBody_244 : decode cX4_sayBody 244 = .ok (.iadd, 1) := by decide +kernel
theorem dX4_sayBody_245 : decode cX4_sayBody 245 = .ok (.iload_n 3, 1) := by decide +kernel
theorem dX4_sayBody_246 : decode cX4_sayBody 246 = .ok (.invokevirtual 32, 3) := by decide +kernel
theorem dX4_sayBody_249 : decode cX4_sayBody 249 = .ok (.ireturn, 1) := by decide +kernel
theorem dX4_sayBody_250 : decode cX4_sayBody 250 = .ok (.bipush 9, 2) := by decide +kernel
theorem dX4_sayBody_252 : decode cX4_sayBody 252 = .ok (.ireturn, 1) := by decide +kernel
theorem dX4_sayBody_253 : decode cX4_sayBody 253 = .ok (.aload_n 0, 1) := by decide +kernel
theorem dX4_sayBody_254 : decode cX4_sayBody 254 = .ok (.iconst 0, 1) := by decide +kernel
theorem dX4_sayBody_255 : decode cX4_sayBody 255 = .ok (.iconst 1, 1) := by decide +kernel
theorem dX4_sayBody_256 : decode cX4_sayBody 256 = .ok (.iload_n 2, 1) := by decide +kernel
theorem dX4_sayBody_257 : decode cX4_sayBody 257 = .ok (.iload_n 3, 1) := by decide +kernel
theorem dX4_sayBody_258 : decode cX4_sayBody 258 = .ok (.invokevirtual 32, 3) := by decide +kernel
theorem dX4_sayBody_261 : decode cX4_sayBody 261 = .ok (.aload_n 0, 1) := by decide +kernel
theorem dX4_sayBody_262 : decode cX4_sayBody 262 = .ok (.getfield 29, 3) := by decide +kernel
theorem dX4_sayBody_265 : decode cX4_sayBody 265 = .ok (.iadd, 1) := by decide +kernel
theorem dX4_sayBody_266 : decode cX4_sayBody 266 = .ok (.ireturn, 1) := by decide +kernel
theorem dX4_sayBody_267 : decode cX4_sayBody 267 = .ok (.iconst 0, 1) := by decide +kernel
theorem dX4_sayBody_268 : decode cX4_sayBody 268 = .ok (.ireturn, 1) := by decide +kernel
theorem dX4_part_0 : decode cX4_part 0 = .ok (.aload_n 0, 1) := by decide +kernel
theorem dX4_part_1 : decode cX4_part 1 = .ok (.getfield 29, 3) := by decide +kernel
theorem dX4_part_4 : decode cX4_part 4 = .ok (.aload_n 0, 1) := by decide +kernel
theorem dX4_part_5 : decode cX4_part 5 = .ok (.getfield 26, 3) := by decide +kernel
theorem dX4_part_8 : decode cX4_part 8 = .ok (.isub, 1) := by decide +kernel
theorem dX4_part_9 : decode cX4_part 9 = .ok (.istore_n 2, 1) := by decide +kernel
theorem dX4_part_10 : decode cX4_part 10 = .ok (.iload_n 2, 1) := by decide +kernel
theorem dX4_part_11 : decode cX4_part 11 = .ok (.ifCond .ne 10, 3) := by decide +kernel
theorem dX4_part_14 : decode cX4_part 14 = .ok (.aload_n 0, 1) := by decide +kernel
theorem dX4_part_15 : decode cX4_part 15 = .ok (.iconst 1, 1) := by decide +kernel
theorem dX4_part_16 : decode cX4_part 16 = .ok (.putfield 19, 3) := by decide +kernel
theorem dX4_part_19 : decode cX4_part 19 = .ok (.iconst 0, 1) := by decide +kernel
theorem dX4_part_20 : decode cX4_part 20 = .ok (.ireturn, 1) := by decide +kernel
theorem dX4_part_21 : decode cX4_part 21 = .ok (.iload_n 1, 1) := by decide +kernel
theorem dX4_part_22 : decode cX4_part 22 = .ok (.iload_n 2, 1) := by decide +kernel
theorem dX4_part_23 : decode cX4_part 23 = .ok (.idiv, 1) := by decide +kernel
theorem dX4_part_24 : decode cX4_part 24 = .ok (.ireturn, 1) := by decide +kernel
theorem dX4_begin_0 : decode cX4_begin 0 = .ok (.aload_n 0, 1) := by decide +kernel
theorem dX4_begin_1 : decode cX4_begin 1 = .ok (.getfield 15, 3) := by decide +kernel
theorem dX4_begin_4 : decode cX4_begin 4 = .ok (.bipush 30, 2) := by decide +kernel
theorem dX4_begin_6 : decode cX4_begin 6 = .ok (.if_icmp .ge 23, 3) := by decide +kernel
theorem dX4_begin_9 : decode cX4_begin 9 = .ok (.aload_n 0, 1) := by decide +kernel
theorem dX4_begin_10 : decode cX4_begin 10 = .ok (.getfield 9, 3) := by decide +kernel
theorem dX4_begin_13 : decode cX4_begin 13 = .ok (.aload_n 0, 1) := by decide +kernel
theorem dX4_begin_14 : decode cX4_begin 14 = .ok (.getfield 15, 3) := by decide +kernel
theorem dX4_begin_17 : decode cX4_begin 17 = .ok (.iload_n 1, 1) := by decide +kernel
theorem dX4_begin_18 : decode cX4_begin 18 = .ok (.iastore, 1) := by decide +kernel
theorem dX4_begin_19 : decode cX4_begin 19 = .ok (.aload_n 0, 1) := by decide +kernel
theorem dX4_begin_20 : decode cX4_begin 20 = .ok (.dup, 1) := by decide +kernel
theorem dX4_begin_21 : decode cX4_begin 21 = .ok (.getfield 15, 3) := by decide +kernel
theorem dX4_begin_24 : decode cX4_begin 24 = .ok (.iconst 1, 1) := by decide +kernel
theorem dX4_begin_25 : decode cX4_begin 25 = .ok (.iadd, 1) := by decide +kernel
theorem dX4_begin_26 : decode cX4_begin 26 = .ok (.putfield 15, 3) := by decide +kernel
theorem dX4_begin_29 : decode cX4_begin 29 = .ok (.return_, 1) := by decide +kernel
set_option maxRecDepth 20000 in
theorem ggX4_find_X5_isOutside : GoodIn wsX4_find wsX5_isOutside := goodIn_r _ [4] (by decide +kernel) (by decide +kernel)
set_option maxRecDepth 20000 in
theorem gX4_find_X5_isOutside_n52 : GoodIn wsX4_find (wsX5_isOutside) := ggX4_find_X5_isOutside
theorem dX4_find_0 : decode cX4_find 0 = .ok (.iload_n 0, 1) := by decide +kernel
theorem dX4_find_1 : decode cX4_find 1 = .ok (.istore_n 2, 1) := by decide +kernel
theorem dX4_find_2 : decode cX4_find 2 = .ok (.iconst 0, 1) := by decide +kernel
theorem dX4_find_3 : decode cX4_find 3 = .ok (.istore_n 3, 1) := by decide +kernel
theorem dX4_find_4 : decode cX4_find 4 = .ok (.iload_n 3, 1) := by decide +kernel
theorem dX4_find_5 : decode cX4_find 5 = .ok (.bipush 7, 2) := by decide +kernel
theorem dX4_find_7 : decode cX4_find 7 = .ok (.if_icmp .ge 44, 3) := by decide +kernel
theorem dX4_find_10 : decode cX4_find 10 = .ok (.iload_n 2, 1) := by decide +kernel
theorem dX4_find_11 : decode cX4_find 11 = .ok (.iconst 0, 1) := by decide +kernel
theorem dX4_find_12 : decode cX4_find 12 = .ok (.bipush 6, 2) := by decide +kernel
theorem dX4_find_14 : decode cX4_find 14 = .ok (.invokestatic 52, 3) := by decide +kernel
theorem dX4_find_17 : decode cX4_find 17 = .ok (.ifCond .ne 34, 3) := by decide +kernel
theorem dX4_find_20 : decode cX4_find 20 = .ok (.getstatic 56, 3) := by decide +kernel
theorem dX4_find_23 : decode cX4_find 23 = .ok (.iload_n 2, 1) := by decide +kernel
theorem dX4_find_24 : decode cX4_find 24 = .ok (.iconst 4, 1) := by decide +kernel
theorem dX4_find_25 : decode cX4_find 25 = .ok (.imul, 1) := by decide +kernel
theorem dX4_find_26 : decode cX4_find 26 = .ok (.iload_n 1, 1) := by decide +kernel
theorem dX4_find_27 : decode cX4_find 27 = .ok (.iadd, 1) := by decide +kernel
theorem dX4_find_28 : decode cX4_find 28 = .ok (.iaload, 1) := by decide +kernel
theorem dX4_find_29 : decode cX4_find 29 = .ok (.istore 4, 2) := by decide +kernel
theorem dX4_find_31 : decode cX4_find 31 = .ok (.iload 4, 2) := by decide +kernel
theorem dX4_find_33 : decode cX4_find 33 = .ok (.ifCond .eq 6, 3) := by decide +kernel
theorem dX4_find_36 : decode cX4_find 36 = .ok (.iload 4, 2) := by decide +kernel
theorem dX4_find_38 : decode cX4_find 38 = .ok (.ireturn, 1) := by decide +kernel
theorem dX4_find_39 : decode cX4_find 39 = .ok (.getstatic 59, 3) := by decide +kernel
theorem dX4_find_42 : decode cX4_find 42 = .ok (.iload_n 2, 1) := by decide +kernel
theorem dX4_find_43 : decode cX4_find 43 = .ok (.iaload, 1) := by decide +kernel
theorem dX4_find_44 : decode cX4_find 44 = .ok (.istore_n 2, 1) := by decide +kernel
theorem dX4_find_45 : decode cX4_find 45 = .ok (.iinc 3 1, 3) := by decide +kernel
theorem dX4_find_48 : decode cX4_find 48 = .ok (.goto (-44), 3) := by decide +kernel
theorem dX4_find_51 : decode cX4_find 51 = .ok (.iconst 0, 1) := by decide +kernel
theorem dX4_find_52 : decode cX4_find 52 = .ok (.ireturn, 1) := by decide +kernel
set_option maxRecDepth 20000 in
theorem ggX5_init_X3_init : GoodIn wsX5_init wsX3_init := goodIn_r _ [28, 29, 2, 3, 23, 30, 31, 32, 33, 34, 35, 36, 37, 38, 39, 40, 41, 42, 43, 44, 45, 46, 47, 48, 49, 50, 51, 52, 53, 54, 55, 6, 56, 57, 58, 59, 60, 61, 62, 88, 89, 90, 91, 92, 93, 94, 95, 96, 97, 98, 99, 100, 101, 102, 103, 127, 128, 129] (by decide +kernel) (by decide +kernel)
set_option maxRecDepth 20000 in
theorem gX5_init_X3_init_n11 : GoodIn wsX5_init (wsX3_init) := ggX5_init_X3_init
set_option maxRecDepth 20000 in
theorem ggX5_init_X1_init : GoodIn wsX5_init wsX1_init := goodIn_r _ [64, 65, 2, 3, 66, 38, 39, 67, 23, 68, 69, 70, 71, 47, 48, 49, 50, 51, 52, 127, 128, 129, 113, 114, 115, 116, 117] (by decide +kernel) (by decide +kernel)
set_option maxRecDepth 20000 in
theorem gX5_init_X1_init_n24 : GoodIn wsX5_init (wsX1_init) := ggX5_init_X1_init
set_option maxRecDepth 20000 in
theorem ggX5_init_X4_init : GoodIn wsX5_init wsX4_init := goodIn_r _ [73, 74, 2, 3, 23, 75, 76, 77, 78, 79, 80, 118, 119, 120, 121, 122, 123] (by decide +kernel) (by decide +kernel)
set_option maxRecDepth 20000 in
theorem gX5_init_X4_init_n31 : GoodIn wsX5_init (wsX4_init) := ggX5_init_X4_init
set_option maxRecDepth 20000 in
theorem ggX5_init_X2_init : GoodIn wsX5_init wsX2_init := goodIn_r _ [82, 83, 2, 3, 84, 23, 85, 86, 87, 124, 125, 126] (by decide +kernel) (by decide +kernel)
set_option maxRecDepth 20000 in
theorem gX5_init_X2_init_n38 : GoodIn wsX5_init (wsX2_init) := ggX5_init_X2_init
theorem dX5_init_0 : decode cX5_init 0 = .ok (.aload_n 0, 1) := by decide +kernel
theorem dX5_init_1 : decode cX5_init 1 = .ok (.invokespecial 3, 3) := by decide +kernel
theorem dX5_init_4 : decode cX5_init 4 = .ok (.aload_n 0, 1) := by decide +kernel
theorem dX5_init_5 : decode cX5_init 5 = .ok (.new 9, 3) := by decide +kernel
theorem dX5_init_8 : decode cX5_init 8 = .ok (.dup, 1) := by decide +kernel
theorem dX5_init_9 : decode cX5_init 9 = .ok (.invokespecial 11, 3) := by decide +kernel
theorem dX5_init_12 : decode cX5_init 12 = .ok (.putfield 12, 3) := by decide +kernel
theorem dX5_init_15 : decode cX5_init 15 = .ok (.aload_n 0, 1) := by decide +kernel
theorem dX5_init_16 : decode cX5_init 16 = .ok (.new 9, 3) := by decide +kernel
theorem dX5_init_19 : decode cX5_init 19 = .ok (.dup, 1) := by decide +kernel
theorem dX5_init_20 : decode cX5_init 20 = .ok (.invokespecial 11, 3) := by decide +kernel
theorem dX5_init_23 : decode cX5_init 23 = .ok (.putfield 16, 3) := by decide +kernel
theorem dX5_init_26 : decode cX5_init 26 = .ok (.aload_n 0, 1) := by decide +kernel
theorem dX5_init_27 : decode cX5_init 27 = .ok (.new 9, 3) := by decide +kernel
theorem dX5_init_30 : decode cX5_init 30 = .ok (.dup, 1) := by decide +kernel
theorem dX5_init_31 : decode cX5_init 31 = .ok (.invokespecial 11, 3) := by decide +kernel
theorem dX5_init_34 : decode cX5_init 34 = .ok (.putfield 19, 3) := by decide +kernel
theorem dX5_init_37 : decode cX5_init 37 = .ok (.aload_n 0, 1) := by decide +kernel
theorem dX5_init_38 : decode cX5_init 38 = .ok (.new 22, 3) := by decide +kernel
theorem dX5_init_41 : decode cX5_init 41 = .ok (.dup, 1) := by decide +kernel
theorem dX5_init_42 : decode cX5_init 42 = .ok (.invokespecial 24, 3) := by decide +kernel
theorem dX5_init_45 : decode cX5_init 45 = .ok (.putfield 25, 3) := by decide +kernel
theorem dX5_init_48 : decode cX5_init 48 = .ok (.aload_n 0, 1) := by decide +kernel
theorem dX5_init_49 : decode cX5_init 49 = .ok (.new 29, 3) := by decide +kernel
theorem dX5_init_52 : decode cX5_init 52 = .ok (.dup, 1) := by decide +kernel
theorem dX5_init_53 : decode cX5_init 53 = .ok (.invokespecial 31, 3) := by decide +kernel
theorem dX5_init_56 : decode cX5_init 56 = .ok (.putfield 32, 3) := by decide +kernel
theorem dX5_init_59 : decode cX5_init 59 = .ok (.aload_n 0, 1) := by decide +kernel
theorem dX5_init_60 : decode cX5_init 60 = .ok (.new 36, 3) := by decide +kernel
theorem dX5_init_63 : decode cX5_init 63 = .ok (.dup, 1) := by decide +kernel
theorem dX5_init_64 : decode cX5_init 64 = .ok (.invokespecial 38, 3) := by decide +kernel
theorem dX5_init_67 : decode cX5_init 67 = .ok (.putfield 39, 3) := by decide +kernel
theorem dX5_init_70 : decode cX5_init 70 = .ok (.aload_n 0, 1) := by decide +kernel
theorem dX5_init_71 : decode cX5_init 71 = .ok (.bipush 15, 2) := by decide +kernel
theorem dX5_init_73 : decode cX5_init 73 = .ok (.sipush 253, 3) := by decide +kernel
theorem dX5_init_76 : decode cX5_init 76 = .ok (.multianewarray 43 2, 4) := by decide +kernel
theorem dX5_init_80 : decode cX5_init 80 = .ok (.putfield 45, 3) := by decide +kernel
theorem dX5_init_83 : decode cX5_init 83 = .ok (.aload_n 0, 1) := by decide +kernel
theorem dX5_init_84 : decode cX5_init 84 = .ok (.bipush 7, 2) := by decide +kernel
theorem dX5_init_86 : decode cX5_init 86 = .ok (.newarray .int, 2) := by decide +kernel
theorem dX5_init_88 : decode cX5_init 88 = .ok (.putfield 48, 3) := by decide +kernel
theorem dX5_init_91 : decode cX5_init 91 = .ok (.aload_n 0, 1) := by decide +kernel
theorem dX5_init_92 : decode cX5_init 92 = .ok (.iconst 0, 1) := by decide +kernel
theorem dX5_init_93 : decode cX5_init 93 = .ok (.putfield 52, 3) := by decide +kernel
theorem dX5_init_96 : decode cX5_init 96 = .ok (.return_, 1) := by decide +kernel
set_option maxRecDepth 20000 in
theorem ggX5_build_X5_isOutside : GoodIn wsX5_build wsX5_isOutside := goodIn_r _ [5] (by decide +kernel) (by decide +kernel)
set_option maxRecDepth 20000 in
theorem gX5_build_X5_isOutside : GoodIn wsX5_build (va_wsS RX5 56 yX5_isOutside wsX5_isOutside) := goodIn_app (goodIn_of _ (by decide +kernel)) ggX5_build_X5_isOutside
set_option maxRecDepth 20000 in
theorem ggX5_build_X5_refuse : GoodIn wsX5_build wsX5_refuse := goodIn_r _ [9, 10, 11, 23, 24, 25, 26, 27, 28, 29, 30, 31] (by decide +kernel) (by decide +kernel)
set_option maxRecDepth 20000 in
theorem gX5_build_X5_refuse : GoodIn wsX5_build (wsV RX5 60 RX5 yX5_refuse wsX5_refuse) := goodIn_app (goodIn_of _ (by decide +kernel)) ggX5_build_X5_refuse
set_option maxRecDepth 20000 in
theorem ggX5_build_X3_lay : GoodIn wsX5_build wsX3_lay := goodIn_r _ [15, 16, 17, 18, 19, 20, 21, 22, 32, 33, 34, 35, 36, 37, 38, 39, 40, 41, 42, 43, 44, 45, 46, 47] (by decide +kernel) (by decide +kernel)
set_option maxRecDepth 20000 in
theorem gX5_build_X3_lay_n70 : GoodIn wsX5_build (wsX3_lay) := ggX5_build_X3_lay
theorem dX5_build_0 : decode cX5_build 0 = .ok (.iload_n 1, 1) := by decide +kernel
theorem dX5_build_1 : decode cX5_build 1 = .ok (.iconst 4, 1) := by decide +kernel
theorem dX5_build_2 : decode cX5_build 2 = .ok (.bipush 14, 2) := by decide +kernel
theorem dX5_build_4 : decode cX5_build 4 = .ok (.invokestatic 56, 3) := by decide +kernel
theorem dX5_build_7 : decode cX5_build 7 = .ok (.ifCond .eq 9, 3) := by decide +kernel
theorem dX5_build_10 : decode cX5_build 10 = .ok (.aload_n 0, 1) := by decide +kernel
theorem dX5_build_11 : decode cX5_build 11 = .ok (.iconst 1, 1) := by decide +kernel
theorem dX5_build_12 : decode cX5_build 12 = .ok (.invokevirtual 60, 3) := by decide +kernel
theorem dX5_build_15 : decode cX5_build 15 = .ok (.ireturn, 1) := by decide +kernel
theorem dX5_build_16 : decode cX5_build 16 = .ok (.aload_n 0, 1) := by decide +kernel
theorem dX5_build_17 : decode cX5_build 17 = .ok (.getfield 12, 3) := by decide +kernel
theorem dX5_build_20 : decode cX5_build 20 = .ok (.getfield 64, 3) := by decide +kernel
theorem dX5_build_23 : decode cX5_build 23 = .ok (.ifCond .le 9, 3) := by decide +kernel
theorem dX5_build_26 : decode cX5_build 26 = .ok (.aload_n 0, 1) := by decide +kernel
theorem dX5_build_27 : decode cX5_build 27 = .ok (.iconst 3, 1) := by decide +kernel
theorem dX5_build_28 : decode cX5_build 28 = .ok (.invokevirtual 60, 3) := by decide +kernel
theorem dX5_build_31 : decode cX5_build 31 = .ok (.ireturn, 1) := by decide +kernel
theorem dX5_build_32 : decode cX5_build 32 = .ok (.aload_n 0, 1) := by decide +kernel
theorem dX5_build_33 : decode cX5_build 33 = .ok (.getfield 12, 3) := by decide +kernel
theorem dX5_build_36 : decode cX5_build 36 = .ok (.getfield 67, 3) := by decide +kernel
theorem dX5_build_39 : decode cX5_build 39 = .ok (.istore_n 2, 1) := by decide +kernel
theorem dX5_build_40 : decode cX5_build 40 = .ok (.aload_n 0, 1) := by decide +kernel
theorem dX5_build_41 : decode cX5_build 41 = .ok (.getfield 12, 3) := by decide +kernel
theorem dX5_build_44 : decode cX5_build 44 = .ok (.iload_n 1, 1) := by decide +kernel
theorem dX5_build_45 : decode cX5_build 45 = .ok (.invokevirtual 70, 3) := by decide +kernel
theorem dX5_build_48 : decode cX5_build 48 = .ok (.iload_n 2, 1) := by decide +kernel
theorem dX5_build_49 : decode cX5_build 49 = .ok (.ireturn, 1) := by decide +kernel
set_option maxRecDepth 20000 in
theorem ggX5_rise_X3_hasStep : GoodIn wsX5_rise wsX3_hasStep := goodIn_r _ [5, 6, 26, 27, 28, 29, 30, 31, 32, 33, 34, 35, 36, 37, 38, 39, 40, 41] (by decide +kernel) (by decide +kernel)
set_option maxRecDepth 20000 in
theorem gX5_rise_X3_hasStep_n74 : GoodIn wsX5_rise (wsX3_hasStep) := ggX5_rise_X3_hasStep
set_option maxRecDepth 20000 in
theorem ggX5_rise_X5_isOutside : GoodIn wsX5_rise wsX5_isOutside := goodIn_r _ [10] (by decide +kernel) (by decide +kernel)
set_option maxRecDepth 20000 in
theorem gX5_rise_X5_isOutside : GoodIn wsX5_rise (va_wsS RX5 56 yX5_isOutside wsX5_isOutside) := goodIn_app (goodIn_of _ (by decide +kernel)) ggX5_rise_X5_isOutside
set_option maxRecDepth 20000 in
theorem ggX5_rise_X5_refuse : GoodIn wsX5_rise wsX5_refuse := goodIn_r _ [14, 15, 16, 17, 18, 19, 20, 21, 22, 23, 24, 25] (by decide +kernel) (by decide +kernel)
set_option maxRecDepth 20000 in
theorem gX5_rise_X5_refuse : GoodIn wsX5_rise (wsV RX5 60 RX5 yX5_refuse wsX5_refuse) := goodIn_app (goodIn_of _ (by decide +kernel)) ggX5_rise_X5_refuse
theorem dX5_rise_0 : decode cX5_rise 0 = .ok (.aload_n 0, 1) := by decide +kernel
theorem dX5_rise_1 : decode cX5_rise 1 = .ok (.getfield 12, 3) := by decide +kernel
theorem dX5_rise_4 : decode cX5_rise 4 = .ok (.iload_n 1, 1) := by decide +kernel
theorem dX5_rise_5 : decode cX5_rise 5 = .ok (.invokevirtual 74, 3) := by decide +kernel
theorem dX5_rise_8 : decode cX5_rise 8 = .ok (.ifCond .eq 14, 3) := by decide +kernel
theorem dX5_rise_11 : decode cX5_rise 11 = .ok (.iload_n 2, 1) := by decide +kernel
theorem dX5_rise_12 : decode cX5_rise 12 = .ok (.bipush (-9), 2) := by decide +kernel
theorem dX5_rise_14 : decode cX5_rise 14 = .ok (.bipush 9, 2) := by decide +kernel
theorem dX5_rise_16 : decode cX5_rise 16 = .ok (.invokestatic 56, 3) := by decide +kernel
theorem dX5_rise_19 : decode cX5_rise 19 = .ok (.ifCond .eq 9, 3) := by decide +kernel
theorem dX5_rise_22 : decode cX5_rise 22 = .ok (.aload_n 0, 1) := by decide +kernel
theorem dX5_rise_23 : decode cX5_rise 23 = .ok (.iconst 1, 1) := by decide +kernel
theorem dX5_rise_24 : decode cX5_rise 24 = .ok (.invokevirtual 60, 3) := by decide +kernel
theorem dX5_rise_27 : decode cX5_rise 27 = .ok (.ireturn, 1) := by decide +kernel
theorem dX5_rise_28 : decode cX5_rise 28 = .ok (.aload_n 0, 1) := by decide +kernel
theorem dX5_rise_29 : decode cX5_rise 29 = .ok (.getfield 12, 3) := by decide +kernel
theorem dX5_rise_32 : decode cX5_rise 32 = .ok (.getfield 78, 3) := by decide +kernel
theorem dX5_rise_35 : decode cX5_rise 35 = .ok (.iload_n 1, 1) := by decide +kernel
theorem dX5_rise_36 : decode cX5_rise 36 = .ok (.iaload, 1) := by decide +kernel
theorem dX5_rise_37 : decode cX5_rise 37 = .ok (.istore_n 3, 1) := by decide +kernel
theorem dX5_rise_38 : decode cX5_rise 38 = .ok (.aload_n 0, 1) := by decide +kernel
theorem dX5_rise_39 : decode cX5_rise 39 = .ok (.getfield 12, 3) := by decide +kernel
theorem dX5_rise_42 : decode cX5_rise 42 = .ok (.getfield 78, 3) := by decide +kernel
theorem dX5_rise_45 : decode cX5_rise 45 = .ok (.iload_n 1, 1) := by decide +kernel
theorem dX5_rise_46 : decode cX5_rise 46 = .ok (.iload_n 2, 1) := by decide +kernel
theorem dX5_rise_47 : decode cX5_rise 47 = .ok (.iastore, 1) := by decide +kernel
theorem dX5_rise_48 : decode cX5_rise 48 = .ok (.iload_n 3, 1) := by decide +kernel
theorem dX5_rise_49 : decode cX5_rise 49 = .ok (.ireturn, 1) := by decide +kernel
set_option maxRecDepth 20000 in
theorem ggX5_stepIs_X3_hasStep : GoodIn wsX5_stepIs wsX3_hasStep := goodIn_r _ [5, 6, 31, 32, 33, 34, 35, 36, 37, 38, 39, 40, 41, 42, 43, 44, 45, 46] (by decide +kernel) (by decide +kernel)
set_option maxRecDepth 20000 in
theorem gX5_stepIs_X3_hasStep_n74 : GoodIn wsX5_stepIs (wsX3_hasStep) := ggX5_stepIs_X3_hasStep
set_option maxRecDepth 20000 in
theorem ggX5_stepIs_X5_isOutside : GoodIn wsX5_stepIs wsX5_isOutside := goodIn_r _ [10] (by decide +kernel) (by decide +kernel)
set_option maxRecDepth 20000 in
theorem gX5_stepIs_X5_isOutside : GoodIn wsX5_stepIs (va_wsS RX5 56 yX5_isOutside wsX5_isOutside) := goodIn_app (goodIn_of _ (by decide +kernel)) ggX5_stepIs_X5_isOutside
set_option maxRecDepth 20000 in
theorem ggX5_stepIs_X5_refuse : GoodIn wsX5_stepIs wsX5_refuse := goodIn_r _ [14, 15, 16, 22, 23, 24, 25, 26, 27, 28, 29, 30] (by decide +kernel) (by decide +kernel)
set_option maxRecDepth 20000 in
theorem gX5_stepIs_X5_refuse : GoodIn wsX5_stepIs (wsV RX5 60 RX5 yX5_refuse wsX5_refuse) := goodIn_app (goodIn_of _ (by decide +kernel)) ggX5_stepIs_X5_refuse
set_option maxRecDepth 20000 in
theorem ggX5_stepIs_X3_climbersAt : GoodIn wsX5_stepIs wsX3_climbersAt := goodIn_r _ [19, 20, 21, 31, 32, 33, 34, 35, 36, 37, 38, 39, 40, 41, 42, 43, 44, 45, 46] (by decide +kernel) (by decide +kernel)
set_option maxRecDepth 20000 in
theorem gX5_stepIs_X3_climbersAt_n84 : GoodIn wsX5_stepIs (wsX3_climbersAt) := ggX5_stepIs_X3_climbersAt
theorem dX5_stepIs_0 : decode cX5_stepIs 0 = .ok (.aload_n 0, 1) := by decide +kernel
theorem dX5_stepIs_1 : decode cX5_stepIs 1 = .ok (.getfield 12, 3) := by decide +kernel
theorem dX5_stepIs_4 : decode cX5_stepIs 4 = .ok (.iload_n 1, 1) := by decide +kernel
theorem dX5_stepIs_5 : decode cX5_stepIs 5 = .ok (.invokevirtual 74, 3) := by decide +kernel
theorem dX5_stepIs_8 : decode cX5_stepIs 8 = .ok (.ifCond .eq 12, 3) := by decide +kernel
theorem dX5_stepIs_11 : decode cX5_stepIs 11 = .ok (.iload_n 2, 1) := by decide +kernel
theorem dX5_stepIs_12 : decode cX5_stepIs 12 = .ok (.iconst 0, 1) := by decide +kernel
theorem dX5_stepIs_13 : decode cX5_stepIs 13 = .ok (.iconst 2, 1) := by decide +kernel
theorem dX5_stepIs_14 : decode cX5_stepIs 14 = .ok (.invokestatic 56, 3) := by decide +kernel
theorem dX5_stepIs_17 : decode cX5_stepIs 17 = .ok (.ifCond .eq 9, 3) := by decide +kernel
theorem dX5_stepIs_20 : decode cX5_stepIs 20 = .ok (.aload_n 0, 1) := by decide +kernel
theorem dX5_stepIs_21 : decode cX5_stepIs 21 = .ok (.iconst 1, 1) := by decide +kernel
theorem dX5_stepIs_22 : decode cX5_stepIs 22 = .ok (.invokevirtual 60, 3) := by decide +kernel
theorem dX5_stepIs_25 : decode cX5_stepIs 25 = .ok (.ireturn, 1) := by decide +kernel
theorem dX5_stepIs_26 : decode cX5_stepIs 26 = .ok (.iload_n 2, 1) := by decide +kernel
theorem dX5_stepIs_27 : decode cX5_stepIs 27 = .ok (.lookupswitch 52 #[(0, 25), (1, 35)], 25) := by decide +kernel
theorem dX5_stepIs_52 : decode cX5_stepIs 52 = .ok (.aload_n 0, 1) := by decide +kernel
theorem dX5_stepIs_53 : decode cX5_stepIs 53 = .ok (.getfield 12, 3) := by decide +kernel
theorem dX5_stepIs_56 : decode cX5_stepIs 56 = .ok (.getfield 78, 3) := by decide +kernel
theorem dX5_stepIs_59 : decode cX5_stepIs 59 = .ok (.iload_n 1, 1) := by decide +kernel
theorem dX5_stepIs_60 : decode cX5_stepIs 60 = .ok (.iaload, 1) := by decide +kernel
theorem dX5_stepIs_61 : decode cX5_stepIs 61 = .ok (.ireturn, 1) := by decide +kernel
theorem dX5_stepIs_62 : decode cX5_stepIs 62 = .ok (.aload_n 0, 1) := by decide +kernel
theorem dX5_stepIs_63 : decode cX5_stepIs 63 = .ok (.getfield 12, 3) := by decide +kernel
theorem dX5_stepIs_66 : decode cX5_stepIs 66 = .ok (.getfield 81, 3) := by decide +kernel
theorem dX5_stepIs_69 : decode cX5_stepIs 69 = .ok (.iload_n 1, 1) := by decide +kernel
theorem dX5_stepIs_70 : decode cX5_stepIs 70 = .ok (.if_icmp .ne 7, 3) := by decide +kernel
theorem dX5_stepIs_73 : decode cX5_stepIs 73 = .ok (.iconst 1, 1) := by decide +kernel
theorem dX5_stepIs_74 : decode cX5_stepIs 74 = .ok (.goto 4, 3) := by decide +kernel
theorem dX5_stepIs_77 : decode cX5_stepIs 77 = .ok (.iconst 0, 1) := by decide +kernel
theorem dX5_stepIs_78 : decode cX5_stepIs 78 = .ok (.ireturn, 1) := by decide +kernel
theorem dX5_stepIs_79 : decode cX5_stepIs 79 = .ok (.aload_n 0, 1) := by decide +kernel
theorem dX5_stepIs_80 : decode cX5_stepIs 80 = .ok (.getfield 12, 3) := by decide +kernel
theorem dX5_stepIs_83 : decode cX5_stepIs 83 = .ok (.iload_n 1, 1) := by decide +kernel
theorem dX5_stepIs_84 : decode cX5_stepIs 84 = .ok (.invokevirtual 84, 3) := by decide +kernel
theorem dX5_stepIs_87 : decode cX5_stepIs 87 = .ok (.ireturn, 1) := by decide +kernel
set_option maxRecDepth 20000 in
theorem ggX5_hide_X3_hasStep : GoodIn wsX5_hide wsX3_hasStep := goodIn_r _ [5, 6, 23, 24, 25, 26, 27, 28, 29, 30, 31, 32, 33, 34, 35, 36, 37, 38] (by decide +kernel) (by decide +kernel)
set_option maxRecDepth 20000 in
theorem gX5_hide_X3_hasStep_n74 : GoodIn wsX5_hide (wsX3_hasStep) := ggX5_hide_X3_hasStep
set_option maxRecDepth 20000 in
theorem ggX5_hide_X5_refuse : GoodIn wsX5_hide wsX5_refuse := goodIn_r _ [11, 12, 13, 14, 15, 16, 17, 18, 19, 20, 21, 22] (by decide +kernel) (by decide +kernel)
set_option maxRecDepth 20000 in
theorem gX5_hide_X5_refuse : GoodIn wsX5_hide (wsV RX5 60 RX5 yX5_refuse wsX5_refuse) := goodIn_app (goodIn_of _ (by decide +kernel)) ggX5_hide_X5_refuse
theorem dX5_hide_0 : decode cX5_hide 0 = .ok (.iload_n 1, 1) := by decide +kernel
theorem dX5_hide_1 : decode cX5_hide 1 = .ok (.iconst (-1), 1) := by decide +kernel
theorem dX5_hide_2 : decode cX5_hide 2 = .ok (.if_icmp .eq 20, 3) := by decide +kernel
theorem dX5_hide_5 : decode cX5_hide 5 = .ok (.aload_n 0, 1) := by decide +kernel
theorem dX5_hide_6 : decode cX5_hide 6 = .ok (.getfield 12, 3) := by decide +kernel
theorem dX5_hide_9 : decode cX5_hide 9 = .ok (.iload_n 1, 1) := by decide +kernel
theorem dX5_hide_10 : decode cX5_hide 10 = .ok (.invokevirtual 74, 3) := by decide +kernel
theorem dX5_hide_13 : decode cX5_hide 13 = .ok (.ifCond .ne 9, 3) := by decide +kernel
theorem dX5_hide_16 : decode cX5_hide 16 = .ok (.aload_n 0, 1) := by decide +kernel
theorem dX5_hide_17 : decode cX5_hide 17 = .ok (.iconst 1, 1) := by decide +kernel
theorem dX5_hide_18 : decode cX5_hide 18 = .ok (.invokevirtual 60, 3) := by decide +kernel
theorem dX5_hide_21 : decode cX5_hide 21 = .ok (.ireturn, 1) := by decide +kernel
theorem dX5_hide_22 : decode cX5_hide 22 = .ok (.aload_n 0, 1) := by decide +kernel
theorem dX5_hide_23 : decode cX5_hide 23 = .ok (.getfield 12, 3) := by decide +kernel
theorem dX5_hide_26 : decode cX5_hide 26 = .ok (.getfield 81, 3) := by decide +kernel
theorem dX5_hide_29 : decode cX5_hide 29 = .ok (.istore_n 2, 1) := by decide +kernel
theorem dX5_hide_30 : decode cX5_hide 30 = .ok (.aload_n 0, 1) := by decide +kernel
theorem dX5_hide_31 : decode cX5_hide 31 = .ok (.getfield 12, 3) := by decide +kernel
theorem dX5_hide_34 : decode cX5_hide 34 = .ok (.iload_n 1, 1) := by decide +kernel
theorem dX5_hide_35 : decode cX5_hide 35 = .ok (.putfield 81, 3) := by decide +kernel
theorem dX5_hide_38 : decode cX5_hide 38 = .ok (.iload_n 2, 1) := by decide +kernel
theorem dX5_hide_39 : decode cX5_hide 39 = .ok (.ireturn, 1) := by decide +kernel
set_option maxRecDepth 20000 in
theorem ggX5_climber_X5_isOutside : GoodIn wsX5_climber wsX5_isOutside := goodIn_r _ [5] (by decide +kernel) (by decide +kernel)
set_option maxRecDepth 20000 in
theorem gX5_climber_X5_isOutside : GoodIn wsX5_climber (va_wsS RX5 56 yX5_isOutside wsX5_isOutside) := goodIn_app (goodIn_of _ (by decide +kernel)) ggX5_climber_X5_isOutside
set_option maxRecDepth 20000 in
theorem ggX5_climber_X3_hasStep : GoodIn wsX5_climber wsX3_hasStep := goodIn_r _ [9, 10, 34, 35, 36, 37, 38, 39, 40, 41, 42, 43, 44, 45, 46, 47, 48, 49] (by decide +kernel) (by decide +kernel)
set_option maxRecDepth 20000 in
theorem gX5_climber_X3_hasStep_n74 : GoodIn wsX5_climber (wsX3_hasStep) := ggX5_climber_X3_hasStep
set_option maxRecDepth 20000 in
theorem ggX5_climber_X5_refuse : GoodIn wsX5_climber wsX5_refuse := goodIn_r _ [14, 15, 16, 25, 26, 27, 28, 29, 30, 31, 32, 33] (by decide +kernel) (by decide +kernel)
set_option maxRecDepth 20000 in
theorem gX5_climber_X5_refuse : GoodIn wsX5_climber (wsV RX5 60 RX5 yX5_refuse wsX5_refuse) := goodIn_app (goodIn_of _ (by decide +kernel)) ggX5_climber_X5_refuse
set_option maxRecDepth 20000 in
theorem ggX5_climber_X3_takeOn : GoodIn wsX5_climber wsX3_takeOn := goodIn_r _ [19, 20, 21, 22, 23, 24, 34, 35, 36, 37, 38, 39, 40, 41, 42, 43, 44, 45, 46, 47, 48, 49] (by decide +kernel) (by decide +kernel)
set_option maxRecDepth 20000 in
theorem gX5_climber_X3_takeOn_n87 : GoodIn wsX5_climber (wsX3_takeOn) := ggX5_climber_X3_takeOn
theorem dX5_climber_0 : decode cX5_climber 0 = .ok (.iload_n 1, 1) := by decide +kernel
theorem dX5_climber_1 : decode cX5_climber 1 = .ok (.iconst 0, 1) := by decide +kernel
theorem dX5_climber_2 : decode cX5_climber 2 = .ok (.bipush 69, 2) := by decide +kernel
theorem dX5_climber_4 : decode cX5_climber 4 = .ok (.invokestatic 56, 3) := by decide +kernel
theorem dX5_climber_7 : decode cX5_climber 7 = .ok (.ifCond .ne 14, 3) := by decide +kernel
theorem dX5_climber_10 : decode cX5_climber 10 = .ok (.aload_n 0, 1) := by decide +kernel
theorem dX5_climber_11 : decode cX5_climber 11 = .ok (.getfield 12, 3) := by decide +kernel
theorem dX5_climber_14 : decode cX5_climber 14 = .ok (.iload_n 2, 1) := by decide +kernel
theorem dX5_climber_15 : decode cX5_climber 15 = .ok (.invokevirtual 74, 3) := by decide +kernel
theorem dX5_climber_18 : decode cX5_climber 18 = .ok (.ifCond .ne 9, 3) := by decide +kernel
theorem dX5_climber_21 : decode cX5_climber 21 = .ok (.aload_n 0, 1) := by decide +kernel
theorem dX5_climber_22 : decode cX5_climber 22 = .ok (.iconst 1, 1) := by decide +kernel
theorem dX5_climber_23 : decode cX5_climber 23 = .ok (.invokevirtual 60, 3) := by decide +kernel
theorem dX5_climber_26 : decode cX5_climber 26 = .ok (.ireturn, 1) := by decide +kernel
theorem dX5_climber_27 : decode cX5_climber 27 = .ok (.aload_n 0, 1) := by decide +kernel
theorem dX5_climber_28 : decode cX5_climber 28 = .ok (.getfield 12, 3) := by decide +kernel
theorem dX5_climber_31 : decode cX5_climber 31 = .ok (.getfield 64, 3) := by decide +kernel
theorem dX5_climber_34 : decode cX5_climber 34 = .ok (.bipush 6, 2) := by decide +kernel
theorem dX5_climber_36 : decode cX5_climber 36 = .ok (.if_icmp .lt 9, 3) := by decide +kernel
theorem dX5_climber_39 : decode cX5_climber 39 = .ok (.aload_n 0, 1) := by decide +kernel
theorem dX5_climber_40 : decode cX5_climber 40 = .ok (.iconst 4, 1) := by decide +kernel
theorem dX5_climber_41 : decode cX5_climber 41 = .ok (.invokevirtual 60, 3) := by decide +kernel
theorem dX5_climber_44 : decode cX5_climber 44 = .ok (.ireturn, 1) := by decide +kernel
theorem dX5_climber_45 : decode cX5_climber 45 = .ok (.aload_n 0, 1) := by decide +kernel
theorem dX5_climber_46 : decode cX5_climber 46 = .ok (.getfield 12, 3) := by decide +kernel
theorem dX5_climber_49 : decode cX5_climber 49 = .ok (.iload_n 1, 1) := by decide +kernel
theorem dX5_climber_50 : decode cX5_climber 50 = .ok (.iload_n 2, 1) := by decide +kernel
theorem dX5_climber_51 : decode cX5_climber 51 = .ok (.invokevirtual 87, 3) := by decide +kernel
theorem dX5_climber_54 : decode cX5_climber 54 = .ok (.ireturn, 1) := by decide +kernel
set_option maxRecDepth 20000 in
theorem ggX5_climberIs_X3_hasClimber : GoodIn wsX5_climberIs wsX3_hasClimber := goodIn_r _ [5, 6, 34, 35, 36, 37, 38, 39, 40, 41, 42, 43, 44, 45, 46, 47, 48, 49] (by decide +kernel) (by decide +kernel)
set_option maxRecDepth 20000 in
theorem gX5_climberIs_X3_hasClimber_n91 : GoodIn wsX5_climberIs (wsX3_hasClimber) := ggX5_climberIs_X3_hasClimber
set_option maxRecDepth 20000 in
theorem ggX5_climberIs_X5_isOutside : GoodIn wsX5_climberIs wsX5_isOutside := goodIn_r _ [10] (by decide +kernel) (by decide +kernel)
set_option maxRecDepth 20000 in
theorem gX5_climberIs_X5_isOutside : GoodIn wsX5_climberIs (va_wsS RX5 56 yX5_isOutside wsX5_isOutside) := goodIn_app (goodIn_of _ (by decide +kernel)) ggX5_climberIs_X5_isOutside
set_option maxRecDepth 20000 in
theorem ggX5_climberIs_X5_refuse : GoodIn wsX5_climberIs wsX5_refuse := goodIn_r _ [14, 15, 16, 25, 26, 27, 28, 29, 30, 31, 32, 33] (by decide +kernel) (by decide +kernel)
set_option maxRecDepth 20000 in
theorem gX5_climberIs_X5_refuse : GoodIn wsX5_climberIs (wsV RX5 60 RX5 yX5_refuse wsX5_refuse) := goodIn_app (goodIn_of _ (by decide +kernel)) ggX5_climberIs_X5_refuse
set_option maxRecDepth 20000 in
theorem ggX5_climberIs_X3_goes : GoodIn wsX5_climberIs wsX3_goes := goodIn_r _ [19, 20, 21, 22, 23, 9, 24, 34, 35, 36, 37, 38, 39, 40, 41, 42, 43, 44, 45, 46, 47, 48, 49] (by decide +kernel) (by decide +kernel)
set_option maxRecDepth 20000 in
theorem gX5_climberIs_X3_goes_n106 : GoodIn wsX5_climberIs (wsX3_goes) := ggX5_climberIs_X3_goes
theorem dX5_climberIs_0 : decode cX5_climberIs 0 = .ok (.aload_n 0, 1) := by decide +kernel
theorem dX5_climberIs_1 : decode cX5_climberIs 1 = .ok (.getfield 12, 3) := by decide +kernel
theorem dX5_climberIs_4 : decode cX5_climberIs 4 = .ok (.iload_n 1, 1) := by decide +kernel
theorem dX5_climberIs_5 : decode cX5_climberIs 5 = .ok (.invokevirtual 91, 3) := by decide +kernel
theorem dX5_climberIs_8 : decode cX5_climberIs 8 = .ok (.ifCond .eq 12, 3) := by decide +kernel
theorem dX5_climberIs_11 : decode cX5_climberIs 11 = .ok (.iload_n 2, 1) := by decide +kernel
theorem dX5_climberIs_12 : decode cX5_climberIs 12 = .ok (.iconst 0, 1) := by decide +kernel
theorem dX5_climberIs_13 : decode cX5_climberIs 13 = .ok (.iconst 4, 1) := by decide +kernel
theorem dX5_climberIs_14 : decode cX5_climberIs 14 = .ok (.invokestatic 56, 3) := by decide +kernel
theorem dX5_climberIs_17 : decode cX5_climberIs 17 = .ok (.ifCond .eq 9, 3) := by decide +kernel
theorem dX5_climberIs_20 : decode cX5_climberIs 20 = .ok (.aload_n 0, 1) := by decide +kernel
theorem dX5_climberIs_21 : decode cX5_climberIs 21 = .ok (.iconst 1, 1) := by decide +kernel
theorem dX5_climberIs_22 : decode cX5_climberIs 22 = .ok (.invokevirtual 60, 3) := by decide +kernel
theorem dX5_climberIs_25 : decode cX5_climberIs 25 = .ok (.ireturn, 1) := by decide +kernel
theorem dX5_climberIs_26 : decode cX5_climberIs 26 = .ok (.iload_n 2, 1) := by decide +kernel
theorem dX5_climberIs_27 : decode cX5_climberIs 27 = .ok (.tableswitch 69 0 3 #[29, 39, 49, 59], 29) := by decide +kernel
theorem dX5_climberIs_56 : decode cX5_climberIs 56 = .ok (.aload_n 0, 1) := by decide +kernel
theorem dX5_climberIs_57 : decode cX5_climberIs 57 = .ok (.getfield 12, 3) := by decide +kernel
theorem dX5_climberIs_60 : decode cX5_climberIs 60 = .ok (.getfield 94, 3) := by decide +kernel
theorem dX5_climberIs_63 : decode cX5_climberIs 63 = .ok (.iload_n 1, 1) := by decide +kernel
theorem dX5_climberIs_64 : decode cX5_climberIs 64 = .ok (.iaload, 1) := by decide +kernel
theorem dX5_climberIs_65 : decode cX5_climberIs 65 = .ok (.ireturn, 1) := by decide +kernel
theorem dX5_climberIs_66 : decode cX5_climberIs 66 = .ok (.aload_n 0, 1) := by decide +kernel
theorem dX5_climberIs_67 : decode cX5_climberIs 67 = .ok (.getfield 12, 3) := by decide +kernel
theorem dX5_climberIs_70 : decode cX5_climberIs 70 = .ok (.getfield 97, 3) := by decide +kernel
theorem dX5_climberIs_73 : decode cX5_climberIs 73 = .ok (.iload_n 1, 1) := by decide +kernel
theorem dX5_climberIs_74 : decode cX5_climberIs 74 = .ok (.iaload, 1) := by decide +kernel
theorem dX5_climberIs_75 : decode cX5_climberIs 75 = .ok (.ireturn, 1) := by decide +kernel
theorem dX5_climberIs_76 : decode cX5_climberIs 76 = .ok (.aload_n 0, 1) := by decide +kernel
theorem dX5_climberIs_77 : decode cX5_climberIs 77 = .ok (.getfield 12, 3) := by decide +kernel
theorem dX5_climberIs_80 : decode cX5_climberIs 80 = .ok (.getfield 100, 3) := by decide +kernel
theorem dX5_climberIs_83 : decode cX5_climberIs 83 = .ok (.iload_n 1, 1) := by decide +kernel
theorem dX5_climberIs_84 : decode cX5_climberIs 84 = .ok (.iaload, 1) := by decide +kernel
theorem dX5_climberIs_85 : decode cX5_climberIs 85 = .ok (.ireturn, 1) := by decide +kernel
theorem dX5_climberIs_86 : decode cX5_climberIs 86 = .ok (.aload_n 0, 1) := by decide +kernel
theorem dX5_climberIs_87 : decode cX5_climberIs 87 = .ok (.getfield 12, 3) := by decide +kernel
theorem dX5_climberIs_90 : decode cX5_climberIs 90 = .ok (.getfield 103, 3) := by decide +kernel
theorem dX5_climberIs_93 : decode cX5_climberIs 93 = .ok (.iload_n 1, 1) := by decide +kernel
theorem dX5_climberIs_94 : decode cX5_climberIs 94 = .ok (.iaload, 1) := by decide +kernel
theorem dX5_climberIs_95 : decode cX5_climberIs 95 = .ok (.ireturn, 1) := by decide +kernel
theorem dX5_climberIs_96 : decode cX5_climberIs 96 = .ok (.aload_n 0, 1) := by decide +kernel
theorem dX5_climberIs_97 : decode cX5_climberIs 97 = .ok (.getfield 12, 3) := by decide +kernel
theorem dX5_climberIs_100 : decode cX5_climberIs 100 = .ok (.iload_n 1, 1) := by decide +kernel
theorem dX5_climberIs_101 : decode cX5_climberIs 101 = .ok (.invokevirtual 106, 3) := by decide +kernel
theorem dX5_climberIs_104 : decode cX5_climberIs 104 = .ok (.ireturn, 1) := by decide +kernel
set_option maxRecDepth 20000 in
theorem ggX5_become_X3_hasClimber : GoodIn wsX5_become wsX3_hasClimber := goodIn_r _ [5, 6, 26, 27, 28, 29, 30, 31, 32, 33, 34, 35, 36, 37, 38, 39, 40, 41] (by decide +kernel) (by decide +kernel)
set_option maxRecDepth 20000 in
theorem gX5_become_X3_hasClimber_n91 : GoodIn wsX5_become (wsX3_hasClimber) := ggX5_become_X3_hasClimber
set_option maxRecDepth 20000 in
theorem ggX5_become_X5_isOutside : GoodIn wsX5_become wsX5_isOutside := goodIn_r _ [10] (by decide +kernel) (by decide +kernel)
set_option maxRecDepth 20000 in
theorem gX5_become_X5_isOutside : GoodIn wsX5_become (va_wsS RX5 56 yX5_isOutside wsX5_isOutside) := goodIn_app (goodIn_of _ (by decide +kernel)) ggX5_become_X5_isOutside
set_option maxRecDepth 20000 in
theorem ggX5_become_X5_refuse : GoodIn wsX5_become wsX5_refuse := goodIn_r _ [14, 15, 16, 17, 18, 19, 20, 21, 22, 23, 24, 25] (by decide +kernel) (by decide +kernel)
set_option maxRecDepth 20000 in
theorem gX5_become_X5_refuse : GoodIn wsX5_become (wsV RX5 60 RX5 yX5_refuse wsX5_refuse) := goodIn_app (goodIn_of _ (by decide +kernel)) ggX5_become_X5_refuse
theorem dX5_become_0 : decode cX5_become 0 = .ok (.aload_n 0, 1) := by decide +kernel
theorem dX5_become_1 : decode cX5_become 1 = .ok (.getfield 12, 3) := by decide +kernel
theorem dX5_become_4 : decode cX5_become 4 = .ok (.iload_n 1, 1) := by decide +kernel
theorem dX5_become_5 : decode cX5_become 5 = .ok (.invokevirtual 91, 3) := by decide +kernel
theorem dX5_become_8 : decode cX5_become 8 = .ok (.ifCond .eq 13, 3) := by decide +kernel
theorem dX5_become_11 : decode cX5_become 11 = .ok (.iload_n 2, 1) := by decide +kernel
theorem dX5_become_12 : decode cX5_become 12 = .ok (.iconst 0, 1) := by decide +kernel
theorem dX5_become_13 : decode cX5_become 13 = .ok (.bipush 69, 2) := by decide +kernel
theorem dX5_become_15 : decode cX5_become 15 = .ok (.invokestatic 56, 3) := by decide +kernel
theorem dX5_become_18 : decode cX5_become 18 = .ok (.ifCond .eq 9, 3) := by decide +kernel
theorem dX5_become_21 : decode cX5_become 21 = .ok (.aload_n 0, 1) := by decide +kernel
theorem dX5_become_22 : decode cX5_become 22 = .ok (.iconst 1, 1) := by decide +kernel
theorem dX5_become_23 : decode cX5_become 23 = .ok (.invokevirtual 60, 3) := by decide +kernel
theorem dX5_become_26 : decode cX5_become 26 = .ok (.ireturn, 1) := by decide +kernel
theorem dX5_become_27 : decode cX5_become 27 = .ok (.aload_n 0, 1) := by decide +kernel
theorem dX5_become_28 : decode cX5_become 28 = .ok (.getfield 12, 3) := by decide +kernel
theorem dX5_become_31 : decode cX5_become 31 = .ok (.getfield 94, 3) := by decide +kernel
theorem dX5_become_34 : decode cX5_become 34 = .ok (.iload_n 1, 1) := by decide +kernel
theorem dX5_become_35 : decode cX5_become 35 = .ok (.iaload, 1) := by decide +kernel
theorem dX5_become_36 : decode cX5_become 36 = .ok (.istore_n 3, 1) := by decide +kernel
theorem dX5_become_37 : decode cX5_become 37 = .ok (.aload_n 0, 1) := by decide +kernel
theorem dX5_become_38 : decode cX5_become 38 = .ok (.getfield 12, 3) := by decide +kernel
theorem dX5_become_41 : decode cX5_become 41 = .ok (.getfield 94, 3) := by decide +kernel
theorem dX5_become_44 : decode cX5_become 44 = .ok (.iload_n 1, 1) := by decide +kernel
theorem dX5_become_45 : decode cX5_become 45 = .ok (.iload_n 2, 1) := by decide +kernel
theorem dX5_become_46 : decode cX5_become 46 = .ok (.bipush 10, 2) := by decide +kernel
theorem dX5_become_48 : decode cX5_become 48 = .ok (.idiv, 1) := by decide +kernel
theorem dX5_become_49 : decode cX5_become 49 = .ok (.iastore, 1) := by decide +kernel
theorem dX5_become_50 : decode cX5_become 50 = .ok (.aload_n 0, 1) := by decide +kernel
theorem dX5_become_51 : decode cX5_become 51 = .ok (.getfield 12, 3) := by decide +kernel
theorem dX5_become_54 : decode cX5_become 54 = .ok (.getfield 97, 3) := by decide +kernel
theorem dX5_become_57 : decode cX5_become 57 = .ok (.iload_n 1, 1) := by decide +kernel
theorem dX5_become_58 : decode cX5_become 58 = .ok (.iload_n 2, 1) := by decide +kernel
theorem dX5_become_59 : decode cX5_become 59 = .ok (.bipush 10, 2) := by decide +kernel
theorem dX5_become_61 : decode cX5_become 61 = .ok (.irem, 1) := by decide +kernel
theorem dX5_become_62 : decode cX5_become 62 = .ok (.iastore, 1) := by decide +kernel
theorem dX5_become_63 : decode cX5_become 63 = .ok (.iload_n 3, 1) := by decide +kernel
theorem dX5_become_64 : decode cX5_become 64 = .ok (.ireturn, 1) := by decide +kernel
set_option maxRecDepth 20000 in
theorem ggX5_as_X3_hasClimber : GoodIn wsX5_as wsX3_hasClimber := goodIn_r _ [5, 6, 30, 31, 32, 33, 34, 35, 36, 37, 38, 39, 40, 41, 42, 43, 44, 45] (by decide +kernel) (by decide +kernel)
set_option maxRecDepth 20000 in
theorem gX5_as_X3_hasClimber_n91 : GoodIn wsX5_as (wsX3_hasClimber) := ggX5_as_X3_hasClimber
set_option maxRecDepth 20000 in
theorem ggX5_as_X5_isOutside : GoodIn wsX5_as wsX5_isOutside := goodIn_r _ [10] (by decide +kernel) (by decide +kernel)
set_option maxRecDepth 20000 in
theorem gX5_as_X5_isOutside : GoodIn wsX5_as (va_wsS RX5 56 yX5_isOutside wsX5_isOutside) := goodIn_app (goodIn_of _ (by decide +kernel)) ggX5_as_X5_isOutside
set_option maxRecDepth 20000 in
theorem ggX5_as_X5_refuse : GoodIn wsX5_as wsX5_refuse := goodIn_r _ [14, 15, 16, 21, 22, 23, 24, 25, 26, 27, 28, 29] (by decide +kernel) (by decide +kernel)
set_option maxRecDepth 20000 in
theorem gX5_as_X5_refuse : GoodIn wsX5_as (wsV RX5 60 RX5 yX5_refuse wsX5_refuse) := goodIn_app (goodIn_of _ (by decide +kernel)) ggX5_as_X5_refuse
set_option maxRecDepth 20000 in
theorem ggX5_as_X5_isUnder : GoodIn wsX5_as wsX5_isUnder := goodIn_r _ [19, 20, 7, 8, 9, 10] (by decide +kernel) (by decide +kernel)
set_option maxRecDepth 20000 in
theorem gX5_as_X5_isUnder : GoodIn wsX5_as (va_wsS RX5 109 yX5_isUnder wsX5_isUnder) := goodIn_app (goodIn_of _ (by decide +kernel)) ggX5_as_X5_isUnder
theorem dX5_as_0 : decode cX5_as 0 = .ok (.aload_n 0, 1) := by decide +kernel
theorem dX5_as_1 : decode cX5_as 1 = .ok (.getfield 12, 3) := by decide +kernel
theorem dX5_as_4 : decode cX5_as 4 = .ok (.iload_n 1, 1) := by decide +kernel
theorem dX5_as_5 : decode cX5_as 5 = .ok (.invokevirtual 91, 3) := by decide +kernel
theorem dX5_as_8 : decode cX5_as 8 = .ok (.ifCond .eq 13, 3) := by decide +kernel
theorem dX5_as_11 : decode cX5_as 11 = .ok (.iload_n 2, 1) := by decide +kernel
theorem dX5_as_12 : decode cX5_as 12 = .ok (.iconst 0, 1) := by decide +kernel
theorem dX5_as_13 : decode cX5_as 13 = .ok (.bipush 6, 2) := by decide +kernel
theorem dX5_as_15 : decode cX5_as 15 = .ok (.invokestatic 56, 3) := by decide +kernel
theorem dX5_as_18 : decode cX5_as 18 = .ok (.ifCond .eq 9, 3) := by decide +kernel
theorem dX5_as_21 : decode cX5_as 21 = .ok (.aload_n 0, 1) := by decide +kernel
theorem dX5_as_22 : decode cX5_as 22 = .ok (.iconst 1, 1) := by decide +kernel
theorem dX5_as_23 : decode cX5_as 23 = .ok (.invokevirtual 60, 3) := by decide +kernel
theorem dX5_as_26 : decode cX5_as 26 = .ok (.ireturn, 1) := by decide +kernel
