set_option maxRecDepth 20000 in
theorem ggX6_init_X6_begins : GoodIn wsX6_init wsX6_begins := goodIn_r _ [17, 5, 29, 30, 31, 32, 33, 34, 35, 36, 37, 38, 39, 40, 41, 42, 43] (by decide +kernel) (by decide +kernel)
set_option maxRecDepth 20000 in
theorem gX6_init_X6_begins : GoodIn wsX6_init (wsV RX6 34 RX6 yX6_begins wsX6_begins) := goodIn_app (goodIn_of _ (by decide +kernel)) ggX6_init_X6_begins
set_option maxRecDepth 20000 in
theorem ggX6_init_X6_adds : GoodIn wsX6_init wsX6_adds := goodIn_r _ [21, 5, 29, 30, 31, 32, 33, 34, 35, 36, 37, 38, 39, 40, 41, 42, 43] (by decide +kernel) (by decide +kernel)
set_option maxRecDepth 20000 in
theorem gX6_init_X6_adds : GoodIn wsX6_init (wsV RX6 37 RX6 yX6_adds wsX6_adds) := goodIn_app (goodIn_of _ (by decide +kernel)) ggX6_init_X6_adds
set_option maxRecDepth 20000 in
theorem ggX6_init_X6_comes : GoodIn wsX6_init wsX6_comes := goodIn_r _ [25, 5, 6, 26, 27, 28, 29, 30, 31, 32, 33, 34, 35, 36, 37, 38, 39, 40, 41, 42, 43] (by decide +kernel) (by decide +kernel)
set_option maxRecDepth 20000 in
theorem gX6_init_X6_comes : GoodIn wsX6_init (wsV RX6 41 RX6 yX6_comes wsX6_comes) := goodIn_app (goodIn_of _ (by decide +kernel)) ggX6_init_X6_comes
theorem dX6_init_0 : decode cX6_init 0 = .ok (.aload_n 0, 1) := by decide +kernel
theorem dX6_init_1 : decode cX6_init 1 = .ok (.invokespecial 1, 3) := by decide +kernel
theorem dX6_init_4 : decode cX6_init 4 = .ok (.aload_n 0, 1) := by decide +kernel
theorem dX6_init_5 : decode cX6_init 5 = .ok (.bipush 106, 2) := by decide +kernel
theorem dX6_init_7 : decode cX6_init 7 = .ok (.newarray .int, 2) := by decide +kernel
theorem dX6_init_9 : decode cX6_init 9 = .ok (.putfield 7, 3) := by decide +kernel
theorem dX6_init_12 : decode cX6_init 12 = .ok (.aload_n 0, 1) := by decide +kernel
theorem dX6_init_13 : decode cX6_init 13 = .ok (.sipush 216, 3) := by decide +kernel
theorem dX6_init_16 : decode cX6_init 16 = .ok (.newarray .int, 2) := by decide +kernel
theorem dX6_init_18 : decode cX6_init 18 = .ok (.putfield 13, 3) := by decide +kernel
theorem dX6_init_21 : decode cX6_init 21 = .ok (.aload_n 0, 1) := by decide +kernel
theorem dX6_init_22 : decode cX6_init 22 = .ok (.sipush 200, 3) := by decide +kernel
theorem dX6_init_25 : decode cX6_init 25 = .ok (.newarray .int, 2) := by decide +kernel
theorem dX6_init_27 : decode cX6_init 27 = .ok (.putfield 16, 3) := by decide +kernel
theorem dX6_init_30 : decode cX6_init 30 = .ok (.aload_n 0, 1) := by decide +kernel
theorem dX6_init_31 : decode cX6_init 31 = .ok (.iconst 4, 1) := by decide +kernel
theorem dX6_init_32 : decode cX6_init 32 = .ok (.newarray .int, 2) := by decide +kernel
theorem dX6_init_34 : decode cX6_init 34 = .ok (.putfield 19, 3) := by decide +kernel
theorem dX6_init_37 : decode cX6_init 37 = .ok (.aload_n 0, 1) := by decide +kernel
theorem dX6_init_38 : decode cX6_init 38 = .ok (.bipush 8, 2) := by decide +kernel
theorem dX6_init_40 : decode cX6_init 40 = .ok (.newarray .int, 2) := by decide +kernel
theorem dX6_init_42 : decode cX6_init 42 = .ok (.putfield 22, 3) := by decide +kernel
theorem dX6_init_45 : decode cX6_init 45 = .ok (.aload_n 0, 1) := by decide +kernel
theorem dX6_init_46 : decode cX6_init 46 = .ok (.bipush 8, 2) := by decide +kernel
theorem dX6_init_48 : decode cX6_init 48 = .ok (.newarray .int, 2) := by decide +kernel
theorem dX6_init_50 : decode cX6_init 50 = .ok (.putfield 25, 3) := by decide +kernel
theorem dX6_init_53 : decode cX6_init 53 = .ok (.aload_n 0, 1) := by decide +kernel
theorem dX6_init_54 : decode cX6_init 54 = .ok (.bipush 8, 2) := by decide +kernel
theorem dX6_init_56 : decode cX6_init 56 = .ok (.newarray .int, 2) := by decide +kernel
theorem dX6_init_58 : decode cX6_init 58 = .ok (.putfield 28, 3) := by decide +kernel
theorem dX6_init_61 : decode cX6_init 61 = .ok (.aload_n 0, 1) := by decide +kernel
theorem dX6_init_62 : decode cX6_init 62 = .ok (.bipush 8, 2) := by decide +kernel
theorem dX6_init_64 : decode cX6_init 64 = .ok (.newarray .int, 2) := by decide +kernel
theorem dX6_init_66 : decode cX6_init 66 = .ok (.putfield 31, 3) := by decide +kernel
theorem dX6_init_69 : decode cX6_init 69 = .ok (.aload_n 0, 1) := by decide +kernel
theorem dX6_init_70 : decode cX6_init 70 = .ok (.invokevirtual 34, 3) := by decide +kernel
theorem dX6_init_73 : decode cX6_init 73 = .ok (.aload_n 0, 1) := by decide +kernel
theorem dX6_init_74 : decode cX6_init 74 = .ok (.iconst 0, 1) := by decide +kernel
theorem dX6_init_75 : decode cX6_init 75 = .ok (.iconst 4, 1) := by decide +kernel
theorem dX6_init_76 : decode cX6_init 76 = .ok (.bipush 10, 2) := by decide +kernel
theorem dX6_init_78 : decode cX6_init 78 = .ok (.bipush 9, 2) := by decide +kernel
theorem dX6_init_80 : decode cX6_init 80 = .ok (.invokevirtual 37, 3) := by decide +kernel
theorem dX6_init_83 : decode cX6_init 83 = .ok (.pop, 1) := by decide +kernel
theorem dX6_init_84 : decode cX6_init 84 = .ok (.aload_n 0, 1) := by decide +kernel
theorem dX6_init_85 : decode cX6_init 85 = .ok (.iconst 0, 1) := by decide +kernel
theorem dX6_init_86 : decode cX6_init 86 = .ok (.iconst 4, 1) := by decide +kernel
theorem dX6_init_87 : decode cX6_init 87 = .ok (.bipush 10, 2) := by decide +kernel
theorem dX6_init_89 : decode cX6_init 89 = .ok (.iconst 0, 1) := by decide +kernel
theorem dX6_init_90 : decode cX6_init 90 = .ok (.invokevirtual 37, 3) := by decide +kernel
theorem dX6_init_93 : decode cX6_init 93 = .ok (.pop, 1) := by decide +kernel
theorem dX6_init_94 : decode cX6_init 94 = .ok (.aload_n 0, 1) := by decide +kernel
theorem dX6_init_95 : decode cX6_init 95 = .ok (.iconst 1, 1) := by decide +kernel
theorem dX6_init_96 : decode cX6_init 96 = .ok (.iconst 3, 1) := by decide +kernel
theorem dX6_init_97 : decode cX6_init 97 = .ok (.iconst 5, 1) := by decide +kernel
theorem dX6_init_98 : decode cX6_init 98 = .ok (.bipush 9, 2) := by decide +kernel
theorem dX6_init_100 : decode cX6_init 100 = .ok (.invokevirtual 37, 3) := by decide +kernel
theorem dX6_init_103 : decode cX6_init 103 = .ok (.pop, 1) := by decide +kernel
theorem dX6_init_104 : decode cX6_init 104 = .ok (.aload_n 0, 1) := by decide +kernel
theorem dX6_init_105 : decode cX6_init 105 = .ok (.iconst 2, 1) := by decide +kernel
theorem dX6_init_106 : decode cX6_init 106 = .ok (.iconst 3, 1) := by decide +kernel
theorem dX6_init_107 : decode cX6_init 107 = .ok (.iconst 1, 1) := by decide +kernel
theorem dX6_init_108 : decode cX6_init 108 = .ok (.bipush 9, 2) := by decide +kernel
theorem dX6_init_110 : decode cX6_init 110 = .ok (.invokevirtual 37, 3) := by decide +kernel
theorem dX6_init_113 : decode cX6_init 113 = .ok (.pop, 1) := by decide +kernel
theorem dX6_init_114 : decode cX6_init 114 = .ok (.aload_n 0, 1) := by decide +kernel
theorem dX6_init_115 : decode cX6_init 115 = .ok (.iconst 3, 1) := by decide +kernel
theorem dX6_init_116 : decode cX6_init 116 = .ok (.iconst 2, 1) := by decide +kernel
theorem dX6_init_117 : decode cX6_init 117 = .ok (.bipush 20, 2) := by decide +kernel
theorem dX6_init_119 : decode cX6_init 119 = .ok (.iconst 1, 1) := by decide +kernel
theorem dX6_init_120 : decode cX6_init 120 = .ok (.invokevirtual 37, 3) := by decide +kernel
theorem dX6_init_123 : decode cX6_init 123 = .ok (.pop, 1) := by decide +kernel
theorem dX6_init_124 : decode cX6_init 124 = .ok (.aload_n 0, 1) := by decide +kernel
theorem dX6_init_125 : decode cX6_init 125 = .ok (.getfield 7, 3) := by decide +kernel
theorem dX6_init_128 : decode cX6_init 128 = .ok (.bipush 94, 2) := by decide +kernel
theorem dX6_init_130 : decode cX6_init 130 = .ok (.bipush 25, 2) := by decide +kernel
theorem dX6_init_132 : decode cX6_init 132 = .ok (.iastore, 1) := by decide +kernel
theorem dX6_init_133 : decode cX6_init 133 = .ok (.aload_n 0, 1) := by decide +kernel
theorem dX6_init_134 : decode cX6_init 134 = .ok (.getfield 7, 3) := by decide +kernel
theorem dX6_init_137 : decode cX6_init 137 = .ok (.bipush 97, 2) := by decide +kernel
theorem dX6_init_139 : decode cX6_init 139 = .ok (.bipush 22, 2) := by decide +kernel
theorem dX6_init_141 : decode cX6_init 141 = .ok (.iastore, 1) := by decide +kernel
theorem dX6_init_142 : decode cX6_init 142 = .ok (.aload_n 0, 1) := by decide +kernel
theorem dX6_init_143 : decode cX6_init 143 = .ok (.getfield 7, 3) := by decide +kernel
theorem dX6_init_146 : decode cX6_init 146 = .ok (.bipush 87, 2) := by decide +kernel
theorem dX6_init_148 : decode cX6_init 148 = .ok (.iconst 1, 1) := by decide +kernel
theorem dX6_init_149 : decode cX6_init 149 = .ok (.iastore, 1) := by decide +kernel
theorem dX6_init_150 : decode cX6_init 150 = .ok (.aload_n 0, 1) := by decide +kernel
theorem dX6_init_151 : decode cX6_init 151 = .ok (.getfield 7, 3) := by decide +kernel
theorem dX6_init_154 : decode cX6_init 154 = .ok (.bipush 90, 2) := by decide +kernel
theorem dX6_init_156 : decode cX6_init 156 = .ok (.iconst 2, 1) := by decide +kernel
theorem dX6_init_157 : decode cX6_init 157 = .ok (.iastore, 1) := by decide +kernel
theorem dX6_init_158 : decode cX6_init 158 = .ok (.aload_n 0, 1) := by decide +kernel
theorem dX6_init_159 : decode cX6_init 159 = .ok (.getfield 7, 3) := by decide +kernel
theorem dX6_init_162 : decode cX6_init 162 = .ok (.bipush 103, 2) := by decide +kernel
theorem dX6_init_164 : decode cX6_init 164 = .ok (.iconst 1, 1) := by decide +kernel
theorem dX6_init_165 : decode cX6_init 165 = .ok (.iastore, 1) := by decide +kernel
theorem dX6_init_166 : decode cX6_init 166 = .ok (.aload_n 0, 1) := by decide +kernel
theorem dX6_init_167 : decode cX6_init 167 = .ok (.invokevirtual 41, 3) := by decide +kernel
theorem dX6_init_170 : decode cX6_init 170 = .ok (.return_, 1) := by decide +kernel
theorem dX6_in_0 : decode cX6_in 0 = .ok (.lload_n 0, 1) := by decide +kernel
theorem dX6_in_1 : decode cX6_in 1 = .ok (.lload_n 2, 1) := by decide +kernel
theorem dX6_in_2 : decode cX6_in 2 = .ok (.lcmp, 1) := by decide +kernel
theorem dX6_in_3 : decode cX6_in 3 = .ok (.ifCond .lt 14, 3) := by decide +kernel
theorem dX6_in_6 : decode cX6_in 6 = .ok (.lload_n 0, 1) := by decide +kernel
theorem dX6_in_7 : decode cX6_in 7 = .ok (.lload 4, 2) := by decide +kernel
theorem dX6_in_9 : decode cX6_in 9 = .ok (.lcmp, 1) := by decide +kernel
theorem dX6_in_10 : decode cX6_in 10 = .ok (.ifCond .gt 7, 3) := by decide +kernel
theorem dX6_in_13 : decode cX6_in 13 = .ok (.iconst 1, 1) := by decide +kernel
theorem dX6_in_14 : decode cX6_in 14 = .ok (.goto 4, 3) := by decide +kernel
theorem dX6_in_17 : decode cX6_in 17 = .ok (.iconst 0, 1) := by decide +kernel
theorem dX6_in_18 : decode cX6_in 18 = .ok (.ireturn, 1) := by decide +kernel
theorem dX6_has_0 : decode cX6_has 0 = .ok (.iload_n 0, 1) := by decide +kernel
theorem dX6_has_1 : decode cX6_has 1 = .ok (.iload_n 1, 1) := by decide +kernel
theorem dX6_has_2 : decode cX6_has 2 = .ok (.ishr, 1) := by decide +kernel
theorem dX6_has_3 : decode cX6_has 3 = .ok (.iconst 1, 1) := by decide +kernel
theorem dX6_has_4 : decode cX6_has 4 = .ok (.iand, 1) := by decide +kernel
theorem dX6_has_5 : decode cX6_has 5 = .ok (.iconst 1, 1) := by decide +kernel
theorem dX6_has_6 : decode cX6_has 6 = .ok (.if_icmp .ne 7, 3) := by decide +kernel
theorem dX6_has_9 : decode cX6_has 9 = .ok (.iconst 1, 1) := by decide +kernel
theorem dX6_has_10 : decode cX6_has 10 = .ok (.goto 4, 3) := by decide +kernel
theorem dX6_has_13 : decode cX6_has 13 = .ok (.iconst 0, 1) := by decide +kernel
theorem dX6_has_14 : decode cX6_has 14 = .ok (.ireturn, 1) := by decide +kernel
theorem dX6_plain_0 : decode cX6_plain 0 = .ok (.iload_n 0, 1) := by decide +kernel
theorem dX6_plain_1 : decode cX6_plain 1 = .ok (.ifCond .ge 8, 3) := by decide +kernel
theorem dX6_plain_4 : decode cX6_plain 4 = .ok (.iload_n 0, 1) := by decide +kernel
theorem dX6_plain_5 : decode cX6_plain 5 = .ok (.ineg, 1) := by decide +kernel
theorem dX6_plain_6 : decode cX6_plain 6 = .ok (.goto 4, 3) := by decide +kernel
theorem dX6_plain_9 : decode cX6_plain 9 = .ok (.iload_n 0, 1) := by decide +kernel
theorem dX6_plain_10 : decode cX6_plain 10 = .ok (.ireturn, 1) := by decide +kernel
theorem dX6_within_0 : decode cX6_within 0 = .ok (.iload_n 0, 1) := by decide +kernel
theorem dX6_within_1 : decode cX6_within 1 = .ok (.sipush 999, 3) := by decide +kernel
theorem dX6_within_4 : decode cX6_within 4 = .ok (.if_icmp .le 9, 3) := by decide +kernel
theorem dX6_within_7 : decode cX6_within 7 = .ok (.sipush 999, 3) := by decide +kernel
theorem dX6_within_10 : decode cX6_within 10 = .ok (.goto 17, 3) := by decide +kernel
theorem dX6_within_13 : decode cX6_within 13 = .ok (.iload_n 0, 1) := by decide +kernel
theorem dX6_within_14 : decode cX6_within 14 = .ok (.sipush (-999), 3) := by decide +kernel
theorem dX6_within_17 : decode cX6_within 17 = .ok (.if_icmp .ge 9, 3) := by decide +kernel
theorem dX6_within_20 : decode cX6_within 20 = .ok (.sipush (-999), 3) := by decide +kernel
theorem dX6_within_23 : decode cX6_within 23 = .ok (.goto 4, 3) := by decide +kernel
theorem dX6_within_26 : decode cX6_within 26 = .ok (.iload_n 0, 1) := by decide +kernel
theorem dX6_within_27 : decode cX6_within 27 = .ok (.ireturn, 1) := by decide +kernel
theorem dX6_ones_0 : decode cX6_ones 0 = .ok (.iconst 0, 1) := by decide +kernel
theorem dX6_ones_1 : decode cX6_ones 1 = .ok (.istore_n 1, 1) := by decide +kernel
theorem dX6_ones_2 : decode cX6_ones 2 = .ok (.iconst 0, 1) := by decide +kernel
theorem dX6_ones_3 : decode cX6_ones 3 = .ok (.istore_n 2, 1) := by decide +kernel
theorem dX6_ones_4 : decode cX6_ones 4 = .ok (.iload_n 2, 1) := by decide +kernel
theorem dX6_ones_5 : decode cX6_ones 5 = .ok (.bipush 8, 2) := by decide +kernel
theorem dX6_ones_7 : decode cX6_ones 7 = .ok (.if_icmp .ge 17, 3) := by decide +kernel
theorem dX6_ones_10 : decode cX6_ones 10 = .ok (.iload_n 1, 1) := by decide +kernel
theorem dX6_ones_11 : decode cX6_ones 11 = .ok (.iload_n 0, 1) := by decide +kernel
theorem dX6_ones_12 : decode cX6_ones 12 = .ok (.iload_n 2, 1) := by decide +kernel
theorem dX6_ones_13 : decode cX6_ones 13 = .ok (.ishr, 1) := by decide +kernel
theorem dX6_ones_14 : decode cX6_ones 14 = .ok (.iconst 1, 1) := by decide +kernel
theorem dX6_ones_15 : decode cX6_ones 15 = .ok (.iand, 1) := by decide +kernel
theorem dX6_ones_16 : decode cX6_ones 16 = .ok (.iadd, 1) := by decide +kernel
theorem dX6_ones_17 : decode cX6_ones 17 = .ok (.istore_n 1, 1) := by decide +kernel
theorem dX6_ones_18 : decode cX6_ones 18 = .ok (.iinc 2 1, 3) := by decide +kernel
theorem dX6_ones_21 : decode cX6_ones 21 = .ok (.goto (-17), 3) := by decide +kernel
theorem dX6_ones_24 : decode cX6_ones 24 = .ok (.iload_n 1, 1) := by decide +kernel
theorem dX6_ones_25 : decode cX6_ones 25 = .ok (.ireturn, 1) := by decide +kernel
theorem dX6_begins_0 : decode cX6_begins 0 = .ok (.iconst 0, 1) := by decide +kernel
theorem dX6_begins_1 : decode cX6_begins 1 = .ok (.istore_n 1, 1) := by decide +kernel
theorem dX6_begins_2 : decode cX6_begins 2 = .ok (.iload_n 1, 1) := by decide +kernel
theorem dX6_begins_3 : decode cX6_begins 3 = .ok (.bipush 53, 2) := by decide +kernel
theorem dX6_begins_5 : decode cX6_begins 5 = .ok (.if_icmp .ge 19, 3) := by decide +kernel
theorem dX6_begins_8 : decode cX6_begins 8 = .ok (.aload_n 0, 1) := by decide +kernel
theorem dX6_begins_9 : decode cX6_begins 9 = .ok (.getfield 7, 3) := by decide +kernel
theorem dX6_begins_12 : decode cX6_begins 12 = .ok (.bipush 53, 2) := by decide +kernel
theorem dX6_begins_14 : decode cX6_begins 14 = .ok (.iload_n 1, 1) := by decide +kernel
theorem dX6_begins_15 : decode cX6_begins 15 = .ok (.iadd, 1) := by decide +kernel
theorem dX6_begins_16 : decode cX6_begins 16 = .ok (.iconst 0, 1) := by decide +kernel
theorem dX6_begins_17 : decode cX6_begins 17 = .ok (.iastore, 1) := by decide +kernel
theorem dX6_begins_18 : decode cX6_begins 18 = .ok (.iinc 1 1, 3) := by decide +kernel
theorem dX6_begins_21 : decode cX6_begins 21 = .ok (.goto (-19), 3) := by decide +kernel
theorem dX6_begins_24 : decode cX6_begins 24 = .ok (.aload_n 0, 1) := by decide +kernel
theorem dX6_begins_25 : decode cX6_begins 25 = .ok (.getfield 7, 3) := by decide +kernel
theorem dX6_begins_28 : decode cX6_begins 28 = .ok (.bipush 102, 2) := by decide +kernel
theorem dX6_begins_30 : decode cX6_begins 30 = .ok (.bipush 9, 2) := by decide +kernel
theorem dX6_begins_32 : decode cX6_begins 32 = .ok (.iastore, 1) := by decide +kernel
theorem dX6_begins_33 : decode cX6_begins 33 = .ok (.aload_n 0, 1) := by decide +kernel
theorem dX6_begins_34 : decode cX6_begins 34 = .ok (.getfield 7, 3) := by decide +kernel
theorem dX6_begins_37 : decode cX6_begins 37 = .ok (.bipush 104, 2) := by decide +kernel
theorem dX6_begins_39 : decode cX6_begins 39 = .ok (.iconst 1, 1) := by decide +kernel
theorem dX6_begins_40 : decode cX6_begins 40 = .ok (.iastore, 1) := by decide +kernel
theorem dX6_begins_41 : decode cX6_begins 41 = .ok (.aload_n 0, 1) := by decide +kernel
theorem dX6_begins_42 : decode cX6_begins 42 = .ok (.getfield 7, 3) := by decide +kernel
theorem dX6_begins_45 : decode cX6_begins 45 = .ok (.bipush 105, 2) := by decide +kernel
theorem dX6_begins_47 : decode cX6_begins 47 = .ok (.iconst 3, 1) := by decide +kernel
theorem dX6_begins_48 : decode cX6_begins 48 = .ok (.iastore, 1) := by decide +kernel
theorem dX6_begins_49 : decode cX6_begins 49 = .ok (.return_, 1) := by decide +kernel
theorem dX6_adds_0 : decode cX6_adds 0 = .ok (.aload_n 0, 1) := by decide +kernel
theorem dX6_adds_1 : decode cX6_adds 1 = .ok (.getfield 7, 3) := by decide +kernel
theorem dX6_adds_4 : decode cX6_adds 4 = .ok (.bipush 53, 2) := by decide +kernel
theorem dX6_adds_6 : decode cX6_adds 6 = .ok (.iaload, 1) := by decide +kernel
theorem dX6_adds_7 : decode cX6_adds 7 = .ok (.istore 5, 2) := by decide +kernel
theorem dX6_adds_9 : decode cX6_adds 9 = .ok (.iload 5, 2) := by decide +kernel
theorem dX6_adds_11 : decode cX6_adds 11 = .ok (.bipush 8, 2) := by decide +kernel
theorem dX6_adds_13 : decode cX6_adds 13 = .ok (.if_icmp .ne 5, 3) := by decide +kernel
theorem dX6_adds_16 : decode cX6_adds 16 = .ok (.iconst 0, 1) := by decide +kernel
theorem dX6_adds_17 : decode cX6_adds 17 = .ok (.ireturn, 1) := by decide +kernel
theorem dX6_adds_18 : decode cX6_adds 18 = .ok (.aload_n 0, 1) := by decide +kernel
theorem dX6_adds_19 : decode cX6_adds 19 = .ok (.getfield 7, 3) := by decide +kernel
theorem dX6_adds_22 : decode cX6_adds 22 = .ok (.bipush 54, 2) := by decide +kernel
theorem dX6_adds_24 : decode cX6_adds 24 = .ok (.iload 5, 2) := by decide +kernel
theorem dX6_adds_26 : decode cX6_adds 26 = .ok (.iadd, 1) := by decide +kernel
theorem dX6_adds_27 : decode cX6_adds 27 = .ok (.iload_n 1, 1) := by decide +kernel
theorem dX6_adds_28 : decode cX6_adds 28 = .ok (.iastore, 1) := by decide +kernel
theorem dX6_adds_29 : decode cX6_adds 29 = .ok (.aload_n 0, 1) := by decide +kernel
theorem dX6_adds_30 : decode cX6_adds 30 = .ok (.getfield 7, 3) := by decide +kernel
theorem dX6_adds_33 : decode cX6_adds 33 = .ok (.bipush 62, 2) := by decide +kernel
theorem dX6_adds_35 : decode cX6_adds 35 = .ok (.iload 5, 2) := by decide +kernel
theorem dX6_adds_37 : decode cX6_adds 37 = .ok (.iadd, 1) := by decide +kernel
theorem dX6_adds_38 : decode cX6_adds 38 = .ok (.iload_n 2, 1) := by decide +kernel
theorem dX6_adds_39 : decode cX6_adds 39 = .ok (.iastore, 1) := by decide +kernel
theorem dX6_adds_40 : decode cX6_adds 40 = .ok (.aload_n 0, 1) := by decide +kernel
theorem dX6_adds_41 : decode cX6_adds 41 = .ok (.getfield 7, 3) := by decide +kernel
theorem dX6_adds_44 : decode cX6_adds 44 = .ok (.bipush 70, 2) := by decide +kernel
theorem dX6_adds_46 : decode cX6_adds 46 = .ok (.iload 5, 2) := by decide +kernel
theorem dX6_adds_48 : decode cX6_adds 48 = .ok (.iadd, 1) := by decide +kernel
theorem dX6_adds_49 : decode cX6_adds 49 = .ok (.iload_n 3, 1) := by decide +kernel
theorem dX6_adds_50 : decode cX6_adds 50 = .ok (.iastore, 1) := by decide +kernel
theorem dX6_adds_51 : decode cX6_adds 51 = .ok (.aload_n 0, 1) := by decide +kernel
theorem dX6_adds_52 : decode cX6_adds 52 = .ok (.getfield 7, 3) := by decide +kernel
theorem dX6_adds_55 : decode cX6_adds 55 = .ok (.bipush 78, 2) := by decide +kernel
theorem dX6_adds_57 : decode cX6_adds 57 = .ok (.iload 5, 2) := by decide +kernel
theorem dX6_adds_59 : decode cX6_adds 59 = .ok (.iadd, 1) := by decide +kernel
theorem dX6_adds_60 : decode cX6_adds 60 = .ok (.iload 4, 2) := by decide +kernel
theorem dX6_adds_62 : decode cX6_adds 62 = .ok (.iastore, 1) := by decide +kernel
theorem dX6_adds_63 : decode cX6_adds 63 = .ok (.aload_n 0, 1) := by decide +kernel
theorem dX6_adds_64 : decode cX6_adds 64 = .ok (.getfield 7, 3) := by decide +kernel
theorem dX6_adds_67 : decode cX6_adds 67 = .ok (.bipush 86, 2) := by decide +kernel
theorem dX6_adds_69 : decode cX6_adds 69 = .ok (.iload 5, 2) := by decide +kernel
theorem dX6_adds_71 : decode cX6_adds 71 = .ok (.iadd, 1) := by decide +kernel
theorem dX6_adds_72 : decode cX6_adds 72 = .ok (.iconst 0, 1) := by decide +kernel
theorem dX6_adds_73 : decode cX6_adds 73 = .ok (.iastore, 1) := by decide +kernel
theorem dX6_adds_74 : decode cX6_adds 74 = .ok (.aload_n 0, 1) := by decide +kernel
theorem dX6_adds_75 : decode cX6_adds 75 = .ok (.getfield 7, 3) := by decide +kernel
theorem dX6_adds_78 : decode cX6_adds 78 = .ok (.bipush 94, 2) := by decide +kernel
theorem dX6_adds_80 : decode cX6_adds 80 = .ok (.iload 5, 2) := by decide +kernel
theorem dX6_adds_82 : decode cX6_adds 82 = .ok (.iadd, 1) := by decide +kernel
theorem dX6_adds_83 : decode cX6_adds 83 = .ok (.bipush 20, 2) := by decide +kernel
theorem dX6_adds_85 : decode cX6_adds 85 = .ok (.iastore, 1) := by decide +kernel
theorem dX6_adds_86 : decode cX6_adds 86 = .ok (.aload_n 0, 1) := by decide +kernel
theorem dX6_adds_87 : decode cX6_adds 87 = .ok (.getfield 7, 3) := by decide +kernel
theorem dX6_adds_90 : decode cX6_adds 90 = .ok (.bipush 53, 2) := by decide +kernel
theorem dX6_adds_92 : decode cX6_adds 92 = .ok (.dup2, 1) := by decide +kernel
theorem dX6_adds_93 : decode cX6_adds 93 = .ok (.iaload, 1) := by decide +kernel
theorem dX6_adds_94 : decode cX6_adds 94 = .ok (.iconst 1, 1) := by decide +kernel
theorem dX6_adds_95 : decode cX6_adds 95 = .ok (.iadd, 1) := by decide +kernel
theorem dX6_adds_96 : decode cX6_adds 96 = .ok (.iastore, 1) := by decide +kernel
theorem dX6_adds_97 : decode cX6_adds 97 = .ok (.iconst 1, 1) := by decide +kernel
theorem dX6_adds_98 : decode cX6_adds 98 = .ok (.ireturn, 1) := by decide +kernel
theorem dX6_comes_0 : decode cX6_comes 0 = .ok (.iconst 0, 1) := by decide +kernel
theorem dX6_comes_1 : decode cX6_comes 1 = .ok (.istore_n 1, 1) := by decide +kernel
theorem dX6_comes_2 : decode cX6_comes 2 = .ok (.iload_n 1, 1) := by decide +kernel
theorem dX6_comes_3 : decode cX6_comes 3 = .ok (.bipush 53, 2) := by decide +kernel
theorem dX6_comes_5 : decode cX6_comes 5 = .ok (.if_icmp .ge 24, 3) := by decide +kernel
theorem dX6_comes_8 : decode cX6_comes 8 = .ok (.aload_n 0, 1) := by decide +kernel
theorem dX6_comes_9 : decode cX6_comes 9 = .ok (.getfield 7, 3) := by decide +kernel
theorem dX6_comes_12 : decode cX6_comes 12 = .ok (.iload_n 1, 1) := by decide +kernel
theorem dX6_comes_13 : decode cX6_comes 13 = .ok (.aload_n 0, 1) := by decide +kernel
theorem dX6_comes_14 : decode cX6_comes 14 = .ok (.getfield 7, 3) := by decide +kernel
theorem dX6_comes_17 : decode cX6_comes 17 = .ok (.bipush 53, 2) := by decide +kernel
theorem dX6_comes_19 : decode cX6_comes 19 = .ok (.iload_n 1, 1) := by decide +kernel
theorem dX6_comes_20 : decode cX6_comes 20 = .ok (.iadd, 1) := by decide +kernel
theorem dX6_comes_21 : decode cX6_comes 21 = .ok (.iaload, 1) := by decide +kernel
theorem dX6_comes_22 : decode cX6_comes 22 = .ok (.iastore, 1) := by decide +kernel
theorem dX6_comes_23 : decode cX6_comes 23 = .ok (.iinc 1 1, 3) := by decide +kernel
theorem dX6_comes_26 : decode cX6_comes 26 = .ok (.goto (-24), 3) := by decide +kernel
theorem dX6_comes_29 : decode cX6_comes 29 = .ok (.iconst 0, 1) := by decide +kernel
theorem dX6_comes_30 : decode cX6_comes 30 = .ok (.istore_n 1, 1) := by decide +kernel
theorem dX6_comes_31 : decode cX6_comes 31 = .ok (.iload_n 1, 1) := by decide +kernel
theorem dX6_comes_32 : decode cX6_comes 32 = .ok (.bipush 8, 2) := by decide +kernel
theorem dX6_comes_34 : decode cX6_comes 34 = .ok (.if_icmp .ge 47, 3) := by decide +kernel
theorem dX6_comes_37 : decode cX6_comes 37 = .ok (.aload_n 0, 1) := by decide +kernel
theorem dX6_comes_38 : decode cX6_comes 38 = .ok (.getfield 13, 3) := by decide +kernel
theorem dX6_comes_41 : decode cX6_comes 41 = .ok (.iconst 0, 1) := by decide +kernel
theorem dX6_comes_42 : decode cX6_comes 42 = .ok (.iload_n 1, 1) := by decide +kernel
theorem dX6_comes_43 : decode cX6_comes 43 = .ok (.iadd, 1) := by decide +kernel
theorem dX6_comes_44 : decode cX6_comes 44 = .ok (.aload_n 0, 1) := by decide +kernel
theorem dX6_comes_45 : decode cX6_comes 45 = .ok (.getfield 7, 3) := by decide +kernel
theorem dX6_comes_48 : decode cX6_comes 48 = .ok (.bipush 41, 2) := by decide +kernel
theorem dX6_comes_50 : decode cX6_comes 50 = .ok (.iload_n 1, 1) := by decide +kernel
theorem dX6_comes_51 : decode cX6_comes 51 = .ok (.iadd, 1) := by decide +kernel
theorem dX6_comes_52 : decode cX6_comes 52 = .ok (.iaload, 1) := by decide +kernel
theorem dX6_comes_53 : decode cX6_comes 53 = .ok (.bipush 20, 2) := by decide +kernel
theorem dX6_comes_55 : decode cX6_comes 55 = .ok (.isub, 1) := by decide +kernel
theorem dX6_comes_56 : decode cX6_comes 56 = .ok (.iastore, 1) := by decide +kernel
theorem dX6_comes_57 : decode cX6_comes 57 = .ok (.aload_n 0, 1) := by decide +kernel
theorem dX6_comes_58 : decode cX6_comes 58 = .ok (.getfield 13, 3) := by decide +kernel
theorem dX6_comes_61 : decode cX6_comes 61 = .ok (.bipush 10, 2) := by decide +kernel
theorem dX6_comes_63 : decode cX6_comes 63 = .ok (.iload_n 1, 1) := by decide +kernel
theorem dX6_comes_64 : decode cX6_comes 64 = .ok (.iadd, 1) := by decide +kernel
theorem dX6_comes_65 : decode cX6_comes 65 = .ok (.aload_n 0, 1) := by decide +kernel
theorem dX6_comes_66 : decode cX6_comes 66 = .ok (.getfield 7, 3) := by decide +kernel
theorem dX6_comes_69 : decode cX6_comes 69 = .ok (.bipush 25, 2) := by decide +kernel
theorem dX6_comes_71 : decode cX6_comes 71 = .ok (.iload_n 1, 1) := by decide +kernel
theorem dX6_comes_72 : decode cX6_comes 72 = .ok (.iadd, 1) := by decide +kernel
theorem dX6_comes_73 : decode cX6_comes 73 = .ok (.iaload, 1) := by decide +kernel
theorem dX6_comes_74 : decode cX6_comes 74 = .ok (.iastore, 1) := by decide +kernel
theorem dX6_comes_75 : decode cX6_comes 75 = .ok (.iinc 1 1, 3) := by decide +kernel
theorem dX6_comes_78 : decode cX6_comes 78 = .ok (.goto (-47), 3) := by decide +kernel
theorem dX6_comes_81 : decode cX6_comes 81 = .ok (.aload_n 0, 1) := by decide +kernel
theorem dX6_comes_82 : decode cX6_comes 82 = .ok (.getfield 13, 3) := by decide +kernel
theorem dX6_comes_85 : decode cX6_comes 85 = .ok (.bipush 8, 2) := by decide +kernel
theorem dX6_comes_87 : decode cX6_comes 87 = .ok (.aload_n 0, 1) := by decide +kernel
theorem dX6_comes_88 : decode cX6_comes 88 = .ok (.getfield 7, 3) := by decide +kernel
theorem dX6_comes_91 : decode cX6_comes 91 = .ok (.bipush 49, 2) := by decide +kernel
theorem dX6_comes_93 : decode cX6_comes 93 = .ok (.iaload, 1) := by decide +kernel
theorem dX6_comes_94 : decode cX6_comes 94 = .ok (.bipush 9, 2) := by decide +kernel
theorem dX6_comes_96 : decode cX6_comes 96 = .ok (.isub, 1) := by decide +kernel
theorem dX6_comes_97 : decode cX6_comes 97 = .ok (.iastore, 1) := by decide +kernel
theorem dX6_comes_98 : decode cX6_comes 98 = .ok (.aload_n 0, 1) := by decide +kernel
theorem dX6_comes_99 : decode cX6_comes 99 = .ok (.getfield 13, 3) := by decide +kernel
theorem dX6_comes_102 : decode cX6_comes 102 = .ok (.bipush 9, 2) := by decide +kernel
theorem dX6_comes_104 : decode cX6_comes 104 = .ok (.iconst 0, 1) := by decide +kernel
theorem dX6_comes_105 : decode cX6_comes 105 = .ok (.iastore, 1) := by decide +kernel
theorem dX6_comes_106 : decode cX6_comes 106 = .ok (.aload_n 0, 1) := by decide +kernel
theorem dX6_comes_107 : decode cX6_comes 107 = .ok (.iconst 0, 1) := by decide +kernel
theorem dX6_comes_108 : decode cX6_comes 108 = .ok (.putfield 44, 3) := by decide +kernel
theorem dX6_comes_111 : decode cX6_comes 111 = .ok (.aload_n 0, 1) := by decide +kernel
theorem dX6_comes_112 : decode cX6_comes 112 = .ok (.iconst 0, 1) := by decide +kernel
theorem dX6_comes_113 : decode cX6_comes 113 = .ok (.putfield 48, 3) := by decide +kernel
theorem dX6_comes_116 : decode cX6_comes 116 = .ok (.aload_n 0, 1) := by decide +kernel
theorem dX6_comes_117 : decode cX6_comes 117 = .ok (.iconst 0, 1) := by decide +kernel
theorem dX6_comes_118 : decode cX6_comes 118 = .ok (.putfield 51, 3) := by decide +kernel
theorem dX6_comes_121 : decode cX6_comes 121 = .ok (.return_, 1) := by decide +kernel
set_option maxRecDepth 20000 in
theorem ggX6_write_X6_in : GoodIn wsX6_write wsX6_in := goodIn_r _ [8] (by decide +kernel) (by decide +kernel)
set_option maxRecDepth 20000 in
theorem gX6_write_X6_in : GoodIn wsX6_write (va_wsS RX6 58 yX6_in wsX6_in) := goodIn_app (goodIn_of _ (by decide +kernel)) ggX6_write_X6_in
theorem dX6_write_0 : decode cX6_write 0 = .ok (.iload_n 1, 1) := by decide +kernel
theorem dX6_write_1 : decode cX6_write 1 = .ok (.i2l, 1) := by decide +kernel
theorem dX6_write_2 : decode cX6_write 2 = .ok (.ldc2_w 54, 3) := by decide +kernel
theorem dX6_write_5 : decode cX6_write 5 = .ok (.ldc2_w 56, 3) := by decide +kernel
theorem dX6_write_8 : decode cX6_write 8 = .ok (.invokestatic 58, 3) := by decide +kernel
theorem dX6_write_11 : decode cX6_write 11 = .ok (.ifCond .ne 5, 3) := by decide +kernel
theorem dX6_write_14 : decode cX6_write 14 = .ok (.iconst (-1), 1) := by decide +kernel
theorem dX6_write_15 : decode cX6_write 15 = .ok (.ireturn, 1) := by decide +kernel
theorem dX6_write_16 : decode cX6_write 16 = .ok (.aload_n 0, 1) := by decide +kernel
theorem dX6_write_17 : decode cX6_write 17 = .ok (.getfield 62, 3) := by decide +kernel
theorem dX6_write_20 : decode cX6_write 20 = .ok (.sipush 200, 3) := by decide +kernel
theorem dX6_write_23 : decode cX6_write 23 = .ok (.if_icmp .ne 6, 3) := by decide +kernel
theorem dX6_write_26 : decode cX6_write 26 = .ok (.bipush (-3), 2) := by decide +kernel
theorem dX6_write_28 : decode cX6_write 28 = .ok (.ireturn, 1) := by decide +kernel
theorem dX6_write_29 : decode cX6_write 29 = .ok (.aload_n 0, 1) := by decide +kernel
theorem dX6_write_30 : decode cX6_write 30 = .ok (.getfield 16, 3) := by decide +kernel
theorem dX6_write_33 : decode cX6_write 33 = .ok (.aload_n 0, 1) := by decide +kernel
theorem dX6_write_34 : decode cX6_write 34 = .ok (.getfield 62, 3) := by decide +kernel
theorem dX6_write_37 : decode cX6_write 37 = .ok (.iload_n 1, 1) := by decide +kernel
theorem dX6_write_38 : decode cX6_write 38 = .ok (.iastore, 1) := by decide +kernel
theorem dX6_write_39 : decode cX6_write 39 = .ok (.aload_n 0, 1) := by decide +kernel
theorem dX6_write_40 : decode cX6_write 40 = .ok (.dup, 1) := by decide +kernel
theorem dX6_write_41 : decode cX6_write 41 = .ok (.getfield 62, 3) := by decide +kernel
theorem dX6_write_44 : decode cX6_write 44 = .ok (.iconst 1, 1) := by decide +kernel
theorem dX6_write_45 : decode cX6_write 45 = .ok (.iadd, 1) := by decide +kernel
theorem dX6_write_46 : decode cX6_write 46 = .ok (.putfield 62, 3) := by decide +kernel
theorem dX6_write_49 : decode cX6_write 49 = .ok (.aload_n 0, 1) := by decide +kernel
theorem dX6_write_50 : decode cX6_write 50 = .ok (.getfield 62, 3) := by decide +kernel
theorem dX6_write_53 : decode cX6_write 53 = .ok (.ireturn, 1) := by decide +kernel
theorem dX6_wipe_0 : decode cX6_wipe 0 = .ok (.aload_n 0, 1) := by decide +kernel
theorem dX6_wipe_1 : decode cX6_wipe 1 = .ok (.getfield 62, 3) := by decide +kernel
theorem dX6_wipe_4 : decode cX6_wipe 4 = .ok (.istore_n 1, 1) := by decide +kernel
theorem dX6_wipe_5 : decode cX6_wipe 5 = .ok (.aload_n 0, 1) := by decide +kernel
theorem dX6_wipe_6 : decode cX6_wipe 6 = .ok (.iconst 0, 1) := by decide +kernel
theorem dX6_wipe_7 : decode cX6_wipe 7 = .ok (.putfield 62, 3) := by decide +kernel
theorem dX6_wipe_10 : decode cX6_wipe 10 = .ok (.iload_n 1, 1) := by decide +kernel
theorem dX6_wipe_11 : decode cX6_wipe 11 = .ok (.ireturn, 1) := by decide +kernel
theorem dX6_letterAt_0 : decode cX6_letterAt 0 = .ok (.iload_n 1, 1) := by decide +kernel
theorem dX6_letterAt_1 : decode cX6_letterAt 1 = .ok (.aload_n 0, 1) := by decide +kernel
theorem dX6_letterAt_2 : decode cX6_letterAt 2 = .ok (.getfield 62, 3) := by decide +kernel
theorem dX6_letterAt_5 : decode cX6_letterAt 5 = .ok (.if_icmp .ge 12, 3) := by decide +kernel
theorem dX6_letterAt_8 : decode cX6_letterAt 8 = .ok (.aload_n 0, 1) := by decide +kernel
theorem dX6_letterAt_9 : decode cX6_letterAt 9 = .ok (.getfield 16, 3) := by decide +kernel
theorem dX6_letterAt_12 : decode cX6_letterAt 12 = .ok (.iload_n 1, 1) := by decide +kernel
theorem dX6_letterAt_13 : decode cX6_letterAt 13 = .ok (.iaload, 1) := by decide +kernel
theorem dX6_letterAt_14 : decode cX6_letterAt 14 = .ok (.goto 4, 3) := by decide +kernel
theorem dX6_letterAt_17 : decode cX6_letterAt 17 = .ok (.iconst (-1), 1) := by decide +kernel
theorem dX6_letterAt_18 : decode cX6_letterAt 18 = .ok (.ireturn, 1) := by decide +kernel
set_option maxRecDepth 20000 in
theorem ggX6_takesNumbers_X6_letterAt : GoodIn wsX6_takesNumbers wsX6_letterAt := goodIn_r _ [9, 10, 11, 15, 16, 17, 18, 19, 20, 21, 22, 23, 24, 25, 26, 27, 28, 29] (by decide +kernel) (by decide +kernel)
set_option maxRecDepth 20000 in
theorem gX6_takesNumbers_X6_letterAt : GoodIn wsX6_takesNumbers (wsV RX6 68 RX6 yX6_letterAt wsX6_letterAt) := goodIn_app (goodIn_of _ (by decide +kernel)) ggX6_takesNumbers_X6_letterAt
set_option maxRecDepth 20000 in
theorem ggX6_takesNumbers_X6_in : GoodIn wsX6_takesNumbers wsX6_in := goodIn_r _ [14] (by decide +kernel) (by decide +kernel)
set_option maxRecDepth 20000 in
theorem gX6_takesNumbers_X6_in : GoodIn wsX6_takesNumbers (va_wsS RX6 58 yX6_in wsX6_in) := goodIn_app (goodIn_of _ (by decide +kernel)) ggX6_takesNumbers_X6_in
theorem dX6_takesNumbers_0 : decode cX6_takesNumbers 0 = .ok (.iconst 0, 1) := by decide +kernel
theorem dX6_takesNumbers_1 : decode cX6_takesNumbers 1 = .ok (.istore_n 2, 1) := by decide +kernel
theorem dX6_takesNumbers_2 : decode cX6_takesNumbers 2 = .ok (.iload_n 2, 1) := by decide +kernel
theorem dX6_takesNumbers_3 : decode cX6_takesNumbers 3 = .ok (.iload_n 1, 1) := by decide +kernel
theorem dX6_takesNumbers_4 : decode cX6_takesNumbers 4 = .ok (.if_icmp .ge 123, 3) := by decide +kernel
theorem dX6_takesNumbers_7 : decode cX6_takesNumbers 7 = .ok (.iconst 0, 1) := by decide +kernel
theorem dX6_takesNumbers_8 : decode cX6_takesNumbers 8 = .ok (.istore_n 3, 1) := by decide +kernel
theorem dX6_takesNumbers_9 : decode cX6_takesNumbers 9 = .ok (.iconst 0, 1) := by decide +kernel
theorem dX6_takesNumbers_10 : decode cX6_takesNumbers 10 = .ok (.istore 4, 2) := by decide +kernel
theorem dX6_takesNumbers_12 : decode cX6_takesNumbers 12 = .ok (.aload_n 0, 1) := by decide +kernel
theorem dX6_takesNumbers_13 : decode cX6_takesNumbers 13 = .ok (.aload_n 0, 1) := by decide +kernel
theorem dX6_takesNumbers_14 : decode cX6_takesNumbers 14 = .ok (.getfield 65, 3) := by decide +kernel
theorem dX6_takesNumbers_17 : decode cX6_takesNumbers 17 = .ok (.invokevirtual 68, 3) := by decide +kernel
theorem dX6_takesNumbers_20 : decode cX6_takesNumbers 20 = .ok (.i2l, 1) := by decide +kernel
theorem dX6_takesNumbers_21 : decode cX6_takesNumbers 21 = .ok (.ldc2_w 72, 3) := by decide +kernel
theorem dX6_takesNumbers_24 : decode cX6_takesNumbers 24 = .ok (.ldc2_w 74, 3) := by decide +kernel
theorem dX6_takesNumbers_27 : decode cX6_takesNumbers 27 = .ok (.invokestatic 58, 3) := by decide +kernel
theorem dX6_takesNumbers_30 : decode cX6_takesNumbers 30 = .ok (.ifCond .eq 42, 3) := by decide +kernel
theorem dX6_takesNumbers_33 : decode cX6_takesNumbers 33 = .ok (.iload 4, 2) := by decide +kernel
theorem dX6_takesNumbers_35 : decode cX6_takesNumbers 35 = .ok (.iconst 2, 1) := by decide +kernel
theorem dX6_takesNumbers_36 : decode cX6_takesNumbers 36 = .ok (.if_icmp .ge 36, 3) := by decide +kernel
theorem dX6_takesNumbers_39 : decode cX6_takesNumbers 39 = .ok (.bipush 10, 2) := by decide +kernel
theorem dX6_takesNumbers_41 : decode cX6_takesNumbers 41 = .ok (.iload_n 3, 1) := by decide +kernel
theorem dX6_takesNumbers_42 : decode cX6_takesNumbers 42 = .ok (.imul, 1) := by decide +kernel
theorem dX6_takesNumbers_43 : decode cX6_takesNumbers 43 = .ok (.aload_n 0, 1) := by decide +kernel
theorem dX6_takesNumbers_44 : decode cX6_takesNumbers 44 = .ok (.aload_n 0, 1) := by decide +kernel
theorem dX6_takesNumbers_45 : decode cX6_takesNumbers 45 = .ok (.getfield 65, 3) := by decide +kernel
theorem dX6_takesNumbers_48 : decode cX6_takesNumbers 48 = .ok (.invokevirtual 68, 3) := by decide +kernel
theorem dX6_takesNumbers_51 : decode cX6_takesNumbers 51 = .ok (.iadd, 1) := by decide +kernel
theorem dX6_takesNumbers_52 : decode cX6_takesNumbers 52 = .ok (.bipush 48, 2) := by decide +kernel
theorem dX6_takesNumbers_54 : decode cX6_takesNumbers 54 = .ok (.isub, 1) := by decide +kernel
theorem dX6_takesNumbers_55 : decode cX6_takesNumbers 55 = .ok (.istore_n 3, 1) := by decide +kernel
theorem dX6_takesNumbers_56 : decode cX6_takesNumbers 56 = .ok (.aload_n 0, 1) := by decide +kernel
theorem dX6_takesNumbers_57 : decode cX6_takesNumbers 57 = .ok (.dup, 1) := by decide +kernel
theorem dX6_takesNumbers_58 : decode cX6_takesNumbers 58 = .ok (.getfield 65, 3) := by decide +kernel
theorem dX6_takesNumbers_61 : decode cX6_takesNumbers 61 = .ok (.iconst 1, 1) := by decide +kernel
theorem dX6_takesNumbers_62 : decode cX6_takesNumbers 62 = .ok (.iadd, 1) := by decide +kernel
theorem dX6_takesNumbers_63 : decode cX6_takesNumbers 63 = .ok (.putfield 65, 3) := by decide +kernel
theorem dX6_takesNumbers_66 : decode cX6_takesNumbers 66 = .ok (.iinc 4 1, 3) := by decide +kernel
theorem dX6_takesNumbers_69 : decode cX6_takesNumbers 69 = .ok (.goto (-57), 3) := by decide +kernel
theorem dX6_takesNumbers_72 : decode cX6_takesNumbers 72 = .ok (.iload 4, 2) := by decide +kernel
theorem dX6_takesNumbers_74 : decode cX6_takesNumbers 74 = .ok (.ifCond .eq 28, 3) := by decide +kernel
theorem dX6_takesNumbers_77 : decode cX6_takesNumbers 77 = .ok (.aload_n 0, 1) := by decide +kernel
theorem dX6_takesNumbers_78 : decode cX6_takesNumbers 78 = .ok (.aload_n 0, 1) := by decide +kernel
theorem dX6_takesNumbers_79 : decode cX6_takesNumbers 79 = .ok (.getfield 65, 3) := by decide +kernel
theorem dX6_takesNumbers_82 : decode cX6_takesNumbers 82 = .ok (.invokevirtual 68, 3) := by decide +kernel
theorem dX6_takesNumbers_85 : decode cX6_takesNumbers 85 = .ok (.iload_n 2, 1) := by decide +kernel
theorem dX6_takesNumbers_86 : decode cX6_takesNumbers 86 = .ok (.iload_n 1, 1) := by decide +kernel
theorem dX6_takesNumbers_87 : decode cX6_takesNumbers 87 = .ok (.iconst 1, 1) := by decide +kernel
theorem dX6_takesNumbers_88 : decode cX6_takesNumbers 88 = .ok (.isub, 1) := by decide +kernel
theorem dX6_takesNumbers_89 : decode cX6_takesNumbers 89 = .ok (.if_icmp .ge 8, 3) := by decide +kernel
theorem dX6_takesNumbers_92 : decode cX6_takesNumbers 92 = .ok (.bipush 44, 2) := by decide +kernel
theorem dX6_takesNumbers_94 : decode cX6_takesNumbers 94 = .ok (.goto 5, 3) := by decide +kernel
theorem dX6_takesNumbers_97 : decode cX6_takesNumbers 97 = .ok (.bipush 59, 2) := by decide +kernel
theorem dX6_takesNumbers_99 : decode cX6_takesNumbers 99 = .ok (.if_icmp .eq 5, 3) := by decide +kernel
theorem dX6_takesNumbers_102 : decode cX6_takesNumbers 102 = .ok (.iconst 0, 1) := by decide +kernel
theorem dX6_takesNumbers_103 : decode cX6_takesNumbers 103 = .ok (.ireturn, 1) := by decide +kernel
theorem dX6_takesNumbers_104 : decode cX6_takesNumbers 104 = .ok (.aload_n 0, 1) := by decide +kernel
theorem dX6_takesNumbers_105 : decode cX6_takesNumbers 105 = .ok (.dup, 1) := by decide +kernel
theorem dX6_takesNumbers_106 : decode cX6_takesNumbers 106 = .ok (.getfield 65, 3) := by decide +kernel
theorem dX6_takesNumbers_109 : decode cX6_takesNumbers 109 = .ok (.iconst 1, 1) := by decide +kernel
theorem dX6_takesNumbers_110 : decode cX6_takesNumbers 110 = .ok (.iadd, 1) := by decide +kernel
theorem dX6_takesNumbers_111 : decode cX6_takesNumbers 111 = .ok (.putfield 65, 3) := by decide +kernel
theorem dX6_takesNumbers_114 : decode cX6_takesNumbers 114 = .ok (.aload_n 0, 1) := by decide +kernel
theorem dX6_takesNumbers_115 : decode cX6_takesNumbers 115 = .ok (.getfield 19, 3) := by decide +kernel
theorem dX6_takesNumbers_118 : decode cX6_takesNumbers 118 = .ok (.iload_n 2, 1) := by decide +kernel
theorem dX6_takesNumbers_119 : decode cX6_takesNumbers 119 = .ok (.iload_n 3, 1) := by decide +kernel
theorem dX6_takesNumbers_120 : decode cX6_takesNumbers 120 = .ok (.iastore, 1) := by decide +kernel
theorem dX6_takesNumbers_121 : decode cX6_takesNumbers 121 = .ok (.iinc 2 1, 3) := by decide +kernel
theorem dX6_takesNumbers_124 : decode cX6_takesNumbers 124 = .ok (.goto (-122), 3) := by decide +kernel
theorem dX6_takesNumbers_127 : decode cX6_takesNumbers 127 = .ok (.iconst 1, 1) := by decide +kernel
theorem dX6_takesNumbers_128 : decode cX6_takesNumbers 128 = .ok (.ireturn, 1) := by decide +kernel
set_option maxRecDepth 20000 in
theorem ggX6_isTold_X6_in : GoodIn wsX6_isTold wsX6_in := goodIn_r _ [5] (by decide +kernel) (by decide +kernel)
set_option maxRecDepth 20000 in
theorem gX6_isTold_X6_in : GoodIn wsX6_isTold (va_wsS RX6 58 yX6_in wsX6_in) := goodIn_app (goodIn_of _ (by decide +kernel)) ggX6_isTold_X6_in
theorem dX6_isTold_0 : decode cX6_isTold 0 = .ok (.iload_n 1, 1) := by decide +kernel
theorem dX6_isTold_1 : decode cX6_isTold 1 = .ok (.i2l, 1) := by decide +kernel
theorem dX6_isTold_2 : decode cX6_isTold 2 = .ok (.lconst 0, 1) := by decide +kernel
theorem dX6_isTold_3 : decode cX6_isTold 3 = .ok (.aload_n 0, 1) := by decide +kernel
theorem dX6_isTold_4 : decode cX6_isTold 4 = .ok (.getfield 7, 3) := by decide +kernel
theorem dX6_isTold_7 : decode cX6_isTold 7 = .ok (.bipush 53, 2) := by decide +kernel
theorem dX6_isTold_9 : decode cX6_isTold 9 = .ok (.iaload, 1) := by decide +kernel
theorem dX6_isTold_10 : decode cX6_isTold 10 = .ok (.iconst 1, 1) := by decide +kernel
theorem dX6_isTold_11 : decode cX6_isTold 11 = .ok (.isub, 1) := by decide +kernel
theorem dX6_isTold_12 : decode cX6_isTold 12 = .ok (.i2l, 1) := by decide +kernel
theorem dX6_isTold_13 : decode cX6_isTold 13 = .ok (.invokestatic 58, 3) := by decide +kernel
theorem dX6_isTold_16 : decode cX6_isTold 16 = .ok (.ireturn, 1) := by decide +kernel
set_option maxRecDepth 20000 in
theorem ggX6_takesItem_X6_letterAt : GoodIn wsX6_takesItem wsX6_letterAt := goodIn_r _ [10, 11, 12, 30, 31, 32, 33, 34, 35, 36, 37, 38, 39, 40, 41, 42, 43, 44] (by decide +kernel) (by decide +kernel)
set_option maxRecDepth 20000 in
theorem gX6_takesItem_X6_letterAt : GoodIn wsX6_takesItem (wsV RX6 68 RX6 yX6_letterAt wsX6_letterAt) := goodIn_app (goodIn_of _ (by decide +kernel)) ggX6_takesItem_X6_letterAt
set_option maxRecDepth 20000 in
theorem ggX6_takesItem_X6_takesNumbers : GoodIn wsX6_takesItem wsX6_takesNumbers := goodIn_r _ [16, 1, 17, 18, 2, 6, 7, 8, 9, 10, 11, 12, 19, 20, 21, 30, 31, 32, 33, 34, 35, 36, 37, 38, 39, 40, 41, 42, 43, 44] (by decide +kernel) (by decide +kernel)
set_option maxRecDepth 20000 in
theorem gX6_takesItem_X6_takesNumbers : GoodIn wsX6_takesItem (wsV RX6 76 RX6 yX6_takesNumbers wsX6_takesNumbers) := goodIn_app (goodIn_of _ (by decide +kernel)) ggX6_takesItem_X6_takesNumbers
set_option maxRecDepth 20000 in
theorem ggX6_takesItem_X6_in : GoodIn wsX6_takesItem wsX6_in := goodIn_r _ [21] (by decide +kernel) (by decide +kernel)
set_option maxRecDepth 20000 in
theorem gX6_takesItem_X6_in : GoodIn wsX6_takesItem (va_wsS RX6 58 yX6_in wsX6_in) := goodIn_app (goodIn_of _ (by decide +kernel)) ggX6_takesItem_X6_in
set_option maxRecDepth 20000 in
theorem ggX6_takesItem_X6_adds : GoodIn wsX6_takesItem wsX6_adds := goodIn_r _ [25, 4, 30, 31, 32, 33, 34, 35, 36, 37, 38, 39, 40, 41, 42, 43, 44] (by decide +kernel) (by decide +kernel)
set_option maxRecDepth 20000 in
theorem gX6_takesItem_X6_adds : GoodIn wsX6_takesItem (wsV RX6 37 RX6 yX6_adds wsX6_adds) := goodIn_app (goodIn_of _ (by decide +kernel)) ggX6_takesItem_X6_adds
set_option maxRecDepth 20000 in
theorem ggX6_takesItem_X6_isTold : GoodIn wsX6_takesItem wsX6_isTold := goodIn_r _ [29, 4, 19, 20, 9, 21, 30, 31, 32, 33, 34, 35, 36, 37, 38, 39, 40, 41, 42, 43, 44] (by decide +kernel) (by decide +kernel)
set_option maxRecDepth 20000 in
theorem gX6_takesItem_X6_isTold : GoodIn wsX6_takesItem (wsV RX6 82 RX6 yX6_isTold wsX6_isTold) := goodIn_app (goodIn_of _ (by decide +kernel)) ggX6_takesItem_X6_isTold
theorem dX6_takesItem_0 : decode cX6_takesItem 0 = .ok (.aload_n 0, 1) := by decide +kernel
theorem dX6_takesItem_1 : decode cX6_takesItem 1 = .ok (.aload_n 0, 1) := by decide +kernel
theorem dX6_takesItem_2 : decode cX6_takesItem 2 = .ok (.getfield 65, 3) := by decide +kernel
theorem dX6_takesItem_5 : decode cX6_takesItem 5 = .ok (.invokevirtual 68, 3) := by decide +kernel
theorem dX6_takesItem_8 : decode cX6_takesItem 8 = .ok (.istore_n 1, 1) := by decide +kernel
theorem dX6_takesItem_9 : decode cX6_takesItem 9 = .ok (.aload_n 0, 1) := by decide +kernel
theorem dX6_takesItem_10 : decode cX6_takesItem 10 = .ok (.dup, 1) := by decide +kernel
theorem dX6_takesItem_11 : decode cX6_takesItem 11 = .ok (.getfield 65, 3) := by decide +kernel
theorem dX6_takesItem_14 : decode cX6_takesItem 14 = .ok (.iconst 1, 1) := by decide +kernel
theorem dX6_takesItem_15 : decode cX6_takesItem 15 = .ok (.iadd, 1) := by decide +kernel
theorem dX6_takesItem_16 : decode cX6_takesItem 16 = .ok (.putfield 65, 3) := by decide +kernel
theorem dX6_takesItem_19 : decode cX6_takesItem 19 = .ok (.iload_n 1, 1) := by decide +kernel
theorem dX6_takesItem_20 : decode cX6_takesItem 20 = .ok (.tableswitch 495 100 119 #[96, 495, 495, 190, 447, 495, 495, 495, 495, 495, 495, 341, 265, 495, 495, 495, 495, 495, 495, 406], 96) := by decide +kernel
theorem dX6_takesItem_116 : decode cX6_takesItem 116 = .ok (.aload_n 0, 1) := by decide +kernel
theorem dX6_takesItem_117 : decode cX6_takesItem 117 = .ok (.iconst 4, 1) := by decide +kernel
theorem dX6_takesItem_118 : decode cX6_takesItem 118 = .ok (.invokevirtual 76, 3) := by decide +kernel
theorem dX6_takesItem_121 : decode cX6_takesItem 121 = .ok (.ifCond .eq 87, 3) := by decide +kernel
theorem dX6_takesItem_124 : decode cX6_takesItem 124 = .ok (.aload_n 0, 1) := by decide +kernel
theorem dX6_takesItem_125 : decode cX6_takesItem 125 = .ok (.getfield 19, 3) := by decide +kernel
theorem dX6_takesItem_128 : decode cX6_takesItem 128 = .ok (.iconst 0, 1) := by decide +kernel
theorem dX6_takesItem_129 : decode cX6_takesItem 129 = .ok (.iaload, 1) := by decide +kernel
theorem dX6_takesItem_130 : decode cX6_takesItem 130 = .ok (.iconst 4, 1) := by decide +kernel
theorem dX6_takesItem_131 : decode cX6_takesItem 131 = .ok (.if_icmp .ge 77, 3) := by decide +kernel
theorem dX6_takesItem_134 : decode cX6_takesItem 134 = .ok (.aload_n 0, 1) := by decide +kernel
theorem dX6_takesItem_135 : decode cX6_takesItem 135 = .ok (.getfield 19, 3) := by decide +kernel
theorem dX6_takesItem_138 : decode cX6_takesItem 138 = .ok (.iconst 1, 1) := by decide +kernel
theorem dX6_takesItem_139 : decode cX6_takesItem 139 = .ok (.iaload, 1) := by decide +kernel
theorem dX6_takesItem_140 : decode cX6_takesItem 140 = .ok (.bipush 7, 2) := by decide +kernel
theorem dX6_takesItem_142 : decode cX6_takesItem 142 = .ok (.if_icmp .ge 66, 3) := by decide +kernel
theorem dX6_takesItem_145 : decode cX6_takesItem 145 = .ok (.aload_n 0, 1) := by decide +kernel
theorem dX6_takesItem_146 : decode cX6_takesItem 146 = .ok (.getfield 19, 3) := by decide +kernel
theorem dX6_takesItem_149 : decode cX6_takesItem 149 = .ok (.iconst 2, 1) := by decide +kernel
theorem dX6_takesItem_150 : decode cX6_takesItem 150 = .ok (.iaload, 1) := by decide +kernel
theorem dX6_takesItem_151 : decode cX6_takesItem 151 = .ok (.i2l, 1) := by decide +kernel
theorem dX6_takesItem_152 : decode cX6_takesItem 152 = .ok (.lconst 1, 1) := by decide +kernel
theorem dX6_takesItem_153 : decode cX6_takesItem 153 = .ok (.ldc2_w 80, 3) := by decide +kernel
theorem dX6_takesItem_156 : decode cX6_takesItem 156 = .ok (.invokestatic 58, 3) := by decide +kernel
theorem dX6_takesItem_159 : decode cX6_takesItem 159 = .ok (.ifCond .eq 49, 3) := by decide +kernel
theorem dX6_takesItem_162 : decode cX6_takesItem 162 = .ok (.aload_n 0, 1) := by decide +kernel
theorem dX6_takesItem_163 : decode cX6_takesItem 163 = .ok (.getfield 19, 3) := by decide +kernel
theorem dX6_takesItem_166 : decode cX6_takesItem 166 = .ok (.iconst 3, 1) := by decide +kernel
theorem dX6_takesItem_167 : decode cX6_takesItem 167 = .ok (.iaload, 1) := by decide +kernel
theorem dX6_takesItem_168 : decode cX6_takesItem 168 = .ok (.bipush 10, 2) := by decide +kernel
theorem dX6_takesItem_170 : decode cX6_takesItem 170 = .ok (.if_icmp .ge 38, 3) := by decide +kernel
theorem dX6_takesItem_173 : decode cX6_takesItem 173 = .ok (.aload_n 0, 1) := by decide +kernel
theorem dX6_takesItem_174 : decode cX6_takesItem 174 = .ok (.aload_n 0, 1) := by decide +kernel
theorem dX6_takesItem_175 : decode cX6_takesItem 175 = .ok (.getfield 19, 3) := by decide +kernel
theorem dX6_takesItem_178 : decode cX6_takesItem 178 = .ok (.iconst 0, 1) := by decide +kernel
theorem dX6_takesItem_179 : decode cX6_takesItem 179 = .ok (.iaload, 1) := by decide +kernel
theorem dX6_takesItem_180 : decode cX6_takesItem 180 = .ok (.aload_n 0, 1) := by decide +kernel
theorem dX6_takesItem_181 : decode cX6_takesItem 181 = .ok (.getfield 19, 3) := by decide +kernel
theorem dX6_takesItem_184 : decode cX6_takesItem 184 = .ok (.iconst 1, 1) := by decide +kernel
theorem dX6_takesItem_185 : decode cX6_takesItem 185 = .ok (.iaload, 1) := by decide +kernel
theorem dX6_takesItem_186 : decode cX6_takesItem 186 = .ok (.aload_n 0, 1) := by decide +kernel
theorem dX6_takesItem_187 : decode cX6_takesItem 187 = .ok (.getfield 19, 3) := by decide +kernel
theorem dX6_takesItem_190 : decode cX6_takesItem 190 = .ok (.iconst 2, 1) := by decide +kernel
theorem dX6_takesItem_191 : decode cX6_takesItem 191 = .ok (.iaload, 1) := by decide +kernel
theorem dX6_takesItem_192 : decode cX6_takesItem 192 = .ok (.aload_n 0, 1) := by decide +kernel
theorem dX6_takesItem_193 : decode cX6_takesItem 193 = .ok (.getfield 19, 3) := by decide +kernel
theorem dX6_takesItem_196 : decode cX6_takesItem 196 = .ok (.iconst 3, 1) := by decide +kernel
theorem dX6_takesItem_197 : decode cX6_takesItem 197 = .ok (.iaload, 1) := by decide +kernel
theorem dX6_takesItem_198 : decode cX6_takesItem 198 = .ok (.invokevirtual 37, 3) := by decide +kernel
theorem dX6_takesItem_201 : decode cX6_takesItem 201 = .ok (.ifCond .eq 7, 3) := by decide +kernel
theorem dX6_takesItem_204 : decode cX6_takesItem 204 = .ok (.iconst 1, 1) := by decide +kernel
theorem dX6_takesItem_205 : decode cX6_takesItem 205 = .ok (.goto 4, 3) := by decide +kernel
theorem dX6_takesItem_208 : decode cX6_takesItem 208 = .ok (.iconst 0, 1) := by decide +kernel
theorem dX6_takesItem_209 : decode cX6_takesItem 209 = .ok (.ireturn, 1) := by decide +kernel
theorem dX6_takesItem_210 : decode cX6_takesItem 210 = .ok (.aload_n 0, 1) := by decide +kernel
theorem dX6_takesItem_211 : decode cX6_takesItem 211 = .ok (.iconst 2, 1) := by decide +kernel
theorem dX6_takesItem_212 : decode cX6_takesItem 212 = .ok (.invokevirtual 76, 3) := by decide +kernel
theorem dX6_takesItem_215 : decode cX6_takesItem 215 = .ok (.ifCond .eq 30, 3) := by decide +kernel
theorem dX6_takesItem_218 : decode cX6_takesItem 218 = .ok (.aload_n 0, 1) := by decide +kernel
theorem dX6_takesItem_219 : decode cX6_takesItem 219 = .ok (.aload_n 0, 1) := by decide +kernel
theorem dX6_takesItem_220 : decode cX6_takesItem 220 = .ok (.getfield 19, 3) := by decide +kernel
theorem dX6_takesItem_223 : decode cX6_takesItem 223 = .ok (.iconst 0, 1) := by decide +kernel
theorem dX6_takesItem_224 : decode cX6_takesItem 224 = .ok (.iaload, 1) := by decide +kernel
theorem dX6_takesItem_225 : decode cX6_takesItem 225 = .ok (.invokevirtual 82, 3) := by decide +kernel
theorem dX6_takesItem_228 : decode cX6_takesItem 228 = .ok (.ifCond .eq 17, 3) := by decide +kernel
theorem dX6_takesItem_231 : decode cX6_takesItem 231 = .ok (.aload_n 0, 1) := by decide +kernel
theorem dX6_takesItem_232 : decode cX6_takesItem 232 = .ok (.getfield 19, 3) := by decide +kernel
theorem dX6_takesItem_235 : decode cX6_takesItem 235 = .ok (.iconst 1, 1) := by decide +kernel
theorem dX6_takesItem_236 : decode cX6_takesItem 236 = .ok (.iaload, 1) := by decide +kernel
theorem dX6_takesItem_237 : decode cX6_takesItem 237 = .ok (.iconst 5, 1) := by decide +kernel
theorem dX6_takesItem_238 : decode cX6_takesItem 238 = .ok (.if_icmp .ge 7, 3) := by decide +kernel
theorem dX6_takesItem_241 : decode cX6_takesItem 241 = .ok (.iconst 1, 1) := by decide +kernel
theorem dX6_takesItem_242 : decode cX6_takesItem 242 = .ok (.goto 4, 3) := by decide +kernel
theorem dX6_takesItem_245 : decode cX6_takesItem 245 = .ok (.iconst 0, 1) := by decide +kernel
theorem dX6_takesItem_246 : decode cX6_takesItem 246 = .ok (.istore_n 2, 1) := by decide +kernel
theorem dX6_takesItem_247 : decode cX6_takesItem 247 = .ok (.aload_n 0, 1) := by decide +kernel
theorem dX6_takesItem_248 : decode cX6_takesItem 248 = .ok (.getfield 7, 3) := by decide +kernel
theorem dX6_takesItem_251 : decode cX6_takesItem 251 = .ok (.bipush 86, 2) := by decide +kernel
theorem dX6_takesItem_253 : decode cX6_takesItem 253 = .ok (.iload_n 2, 1) := by decide +kernel
theorem dX6_takesItem_254 : decode cX6_takesItem 254 = .ok (.ifCond .eq 12, 3) := by decide +kernel
theorem dX6_takesItem_257 : decode cX6_takesItem 257 = .ok (.aload_n 0, 1) := by decide +kernel
theorem dX6_takesItem_258 : decode cX6_takesItem 258 = .ok (.getfield 19, 3) := by decide +kernel
theorem dX6_takesItem_261 : decode cX6_takesItem 261 = .ok (.iconst 0, 1) := by decide +kernel
theorem dX6_takesItem_262 : decode cX6_takesItem 262 = .ok (.iaload, 1) := by decide +kernel
theorem dX6_takesItem_263 : decode cX6_takesItem 263 = .ok (.goto 4, 3) := by decide +kernel
theorem dX6_takesItem_266 : decode cX6_takesItem 266 = .ok (.iconst 0, 1) := by decide +kernel
theorem dX6_takesItem_267 : decode cX6_takesItem 267 = .ok (.iadd, 1) := by decide +kernel
theorem dX6_takesItem_268 : decode cX6_takesItem 268 = .ok (.iload_n 2, 1) := by decide +kernel
theorem dX6_takesItem_269 : decode cX6_takesItem 269 = .ok (.ifCond .eq 12, 3) := by decide +kernel
theorem dX6_takesItem_272 : decode cX6_takesItem 272 = .ok (.aload_n 0, 1) := by decide +kernel
theorem dX6_takesItem_273 : decode cX6_takesItem 273 = .ok (.getfield 19, 3) := by decide +kernel
theorem dX6_takesItem_276 : decode cX6_takesItem 276 = .ok (.iconst 1, 1) := by decide +kernel
theorem dX6_takesItem_277 : decode cX6_takesItem 277 = .ok (.iaload, 1) := by decide +kernel
theorem dX6_takesItem_278 : decode cX6_takesItem 278 = .ok (.goto 4, 3) := by decide +kernel
theorem dX6_takesItem_281 : decode cX6_takesItem 281 = .ok (.iconst 0, 1) := by decide +kernel
theorem dX6_takesItem_282 : decode cX6_takesItem 282 = .ok (.iastore, 1) := by decide +kernel
theorem dX6_takesItem_283 : decode cX6_takesItem 283 = .ok (.iload_n 2, 1) := by decide +kernel
theorem dX6_takesItem_284 : decode cX6_takesItem 284 = .ok (.ireturn, 1) := by decide +kernel
theorem dX6_takesItem_285 : decode cX6_takesItem 285 = .ok (.aload_n 0, 1) := by decide +kernel
theorem dX6_takesItem_286 : decode cX6_takesItem 286 = .ok (.iconst 2, 1) := by decide +kernel
theorem dX6_takesItem_287 : decode cX6_takesItem 287 = .ok (.invokevirtual 76, 3) := by decide +kernel
theorem dX6_takesItem_290 : decode cX6_takesItem 290 = .ok (.ifCond .eq 31, 3) := by decide +kernel
theorem dX6_takesItem_293 : decode cX6_takesItem 293 = .ok (.aload_n 0, 1) := by decide +kernel
theorem dX6_takesItem_294 : decode cX6_takesItem 294 = .ok (.aload_n 0, 1) := by decide +kernel
theorem dX6_takesItem_295 : decode cX6_takesItem 295 = .ok (.getfield 19, 3) := by decide +kernel
theorem dX6_takesItem_298 : decode cX6_takesItem 298 = .ok (.iconst 0, 1) := by decide +kernel
theorem dX6_takesItem_299 : decode cX6_takesItem 299 = .ok (.iaload, 1) := by decide +kernel
theorem dX6_takesItem_300 : decode cX6_takesItem 300 = .ok (.invokevirtual 82, 3) := by decide +kernel
theorem dX6_takesItem_303 : decode cX6_takesItem 303 = .ok (.ifCond .eq 18, 3) := by decide +kernel
theorem dX6_takesItem_306 : decode cX6_takesItem 306 = .ok (.aload_n 0, 1) := by decide +kernel
theorem dX6_takesItem_307 : decode cX6_takesItem 307 = .ok (.getfield 19, 3) := by decide +kernel
theorem dX6_takesItem_310 : decode cX6_takesItem 310 = .ok (.iconst 1, 1) := by decide +kernel
theorem dX6_takesItem_311 : decode cX6_takesItem 311 = .ok (.iaload, 1) := by decide +kernel
theorem dX6_takesItem_312 : decode cX6_takesItem 312 = .ok (.bipush 41, 2) := by decide +kernel
theorem dX6_takesItem_314 : decode cX6_takesItem 314 = .ok (.if_icmp .ge 7, 3) := by decide +kernel
theorem dX6_takesItem_317 : decode cX6_takesItem 317 = .ok (.iconst 1, 1) := by decide +kernel
theorem dX6_takesItem_318 : decode cX6_takesItem 318 = .ok (.goto 4, 3) := by decide +kernel
theorem dX6_takesItem_321 : decode cX6_takesItem 321 = .ok (.iconst 0, 1) := by decide +kernel
theorem dX6_takesItem_322 : decode cX6_takesItem 322 = .ok (.istore_n 3, 1) := by decide +kernel
theorem dX6_takesItem_323 : decode cX6_takesItem 323 = .ok (.aload_n 0, 1) := by decide +kernel
theorem dX6_takesItem_324 : decode cX6_takesItem 324 = .ok (.getfield 7, 3) := by decide +kernel
theorem dX6_takesItem_327 : decode cX6_takesItem 327 = .ok (.bipush 94, 2) := by decide +kernel
theorem dX6_takesItem_329 : decode cX6_takesItem 329 = .ok (.iload_n 3, 1) := by decide +kernel
theorem dX6_takesItem_330 : decode cX6_takesItem 330 = .ok (.ifCond .eq 12, 3) := by decide +kernel
theorem dX6_takesItem_333 : decode cX6_takesItem 333 = .ok (.aload_n 0, 1) := by decide +kernel
theorem dX6_takesItem_334 : decode cX6_takesItem 334 = .ok (.getfield 19, 3) := by decide +kernel
theorem dX6_takesItem_337 : decode cX6_takesItem 337 = .ok (.iconst 0, 1) := by decide +kernel
theorem dX6_takesItem_338 : decode cX6_takesItem 338 = .ok (.iaload, 1) := by decide +kernel
theorem dX6_takesItem_339 : decode cX6_takesItem 339 = .ok (.goto 4, 3) := by decide +kernel
theorem dX6_takesItem_342 : decode cX6_takesItem 342 = .ok (.iconst 0, 1) := by decide +kernel
theorem dX6_takesItem_343 : decode cX6_takesItem 343 = .ok (.iadd, 1) := by decide +kernel
theorem dX6_takesItem_344 : decode cX6_takesItem 344 = .ok (.iload_n 3, 1) := by decide +kernel
theorem dX6_takesItem_345 : decode cX6_takesItem 345 = .ok (.ifCond .eq 12, 3) := by decide +kernel
theorem dX6_takesItem_348 : decode cX6_takesItem 348 = .ok (.aload_n 0, 1) := by decide +kernel
theorem dX6_takesItem_349 : decode cX6_takesItem 349 = .ok (.getfield 19, 3) := by decide +kernel
theorem dX6_takesItem_352 : decode cX6_takesItem 352 = .ok (.iconst 1, 1) := by decide +kernel
theorem dX6_takesItem_353 : decode cX6_takesItem 353 = .ok (.iaload, 1) := by decide +kernel
theorem dX6_takesItem_354 : decode cX6_takesItem 354 = .ok (.goto 4, 3) := by decide +kernel
theorem dX6_takesItem_357 : decode cX6_takesItem 357 = .ok (.iconst 0, 1) := by decide +kernel
theorem dX6_takesItem_358 : decode cX6_takesItem 358 = .ok (.iastore, 1) := by decide +kernel
theorem dX6_takesItem_359 : decode cX6_takesItem 359 = .ok (.iload_n 3, 1) := by decide +kernel
theorem dX6_takesItem_360 : decode cX6_takesItem 360 = .ok (.ireturn, 1) := by decide +kernel
theorem dX6_takesItem_361 : decode cX6_takesItem 361 = .ok (.aload_n 0, 1) := by decide +kernel
theorem dX6_takesItem_362 : decode cX6_takesItem 362 = .ok (.iconst 2, 1) := by decide +kernel
theorem dX6_takesItem_363 : decode cX6_takesItem 363 = .ok (.invokevirtual 76, 3) := by decide +kernel
theorem dX6_takesItem_366 : decode cX6_takesItem 366 = .ok (.ifCond .eq 28, 3) := by decide +kernel
theorem dX6_takesItem_369 : decode cX6_takesItem 369 = .ok (.aload_n 0, 1) := by decide +kernel
theorem dX6_takesItem_370 : decode cX6_takesItem 370 = .ok (.getfield 19, 3) := by decide +kernel
theorem dX6_takesItem_373 : decode cX6_takesItem 373 = .ok (.iconst 0, 1) := by decide +kernel
theorem dX6_takesItem_374 : decode cX6_takesItem 374 = .ok (.iaload, 1) := by decide +kernel
theorem dX6_takesItem_375 : decode cX6_takesItem 375 = .ok (.bipush 19, 2) := by decide +kernel
theorem dX6_takesItem_377 : decode cX6_takesItem 377 = .ok (.if_icmp .ge 17, 3) := by decide +kernel
theorem dX6_takesItem_380 : decode cX6_takesItem 380 = .ok (.aload_n 0, 1) := by decide +kernel
theorem dX6_takesItem_381 : decode cX6_takesItem 381 = .ok (.getfield 19, 3) := by decide +kernel
theorem dX6_takesItem_384 : decode cX6_takesItem 384 = .ok (.iconst 1, 1) := by decide +kernel
theorem dX6_takesItem_385 : decode cX6_takesItem 385 = .ok (.iaload, 1) := by decide +kernel
theorem dX6_takesItem_386 : decode cX6_takesItem 386 = .ok (.iconst 4, 1) := by decide +kernel
theorem dX6_takesItem_387 : decode cX6_takesItem 387 = .ok (.if_icmp .ge 7, 3) := by decide +kernel
theorem dX6_takesItem_390 : decode cX6_takesItem 390 = .ok (.iconst 1, 1) := by decide +kernel
theorem dX6_takesItem_391 : decode cX6_takesItem 391 = .ok (.goto 4, 3) := by decide +kernel
theorem dX6_takesItem_394 : decode cX6_takesItem 394 = .ok (.iconst 0, 1) := by decide +kernel
theorem dX6_takesItem_395 : decode cX6_takesItem 395 = .ok (.istore 4, 2) := by decide +kernel
theorem dX6_takesItem_397 : decode cX6_takesItem 397 = .ok (.aload_n 0, 1) := by decide +kernel
theorem dX6_takesItem_398 : decode cX6_takesItem 398 = .ok (.getfield 7, 3) := by decide +kernel
theorem dX6_takesItem_401 : decode cX6_takesItem 401 = .ok (.bipush 102, 2) := by decide +kernel
theorem dX6_takesItem_403 : decode cX6_takesItem 403 = .ok (.aload_n 0, 1) := by decide +kernel
theorem dX6_takesItem_404 : decode cX6_takesItem 404 = .ok (.getfield 19, 3) := by decide +kernel
theorem dX6_takesItem_407 : decode cX6_takesItem 407 = .ok (.iconst 0, 1) := by decide +kernel
theorem dX6_takesItem_408 : decode cX6_takesItem 408 = .ok (.iaload, 1) := by decide +kernel
theorem dX6_takesItem_409 : decode cX6_takesItem 409 = .ok (.iastore, 1) := by decide +kernel
theorem dX6_takesItem_410 : decode cX6_takesItem 410 = .ok (.aload_n 0, 1) := by decide +kernel
theorem dX6_takesItem_411 : decode cX6_takesItem 411 = .ok (.getfield 7, 3) := by decide +kernel
theorem dX6_takesItem_414 : decode cX6_takesItem 414 = .ok (.bipush 103, 2) := by decide +kernel
theorem dX6_takesItem_416 : decode cX6_takesItem 416 = .ok (.aload_n 0, 1) := by decide +kernel
theorem dX6_takesItem_417 : decode cX6_takesItem 417 = .ok (.getfield 19, 3) := by decide +kernel
theorem dX6_takesItem_420 : decode cX6_takesItem 420 = .ok (.iconst 1, 1) := by decide +kernel
theorem dX6_takesItem_421 : decode cX6_takesItem 421 = .ok (.iaload, 1) := by decide +kernel
theorem dX6_takesItem_422 : decode cX6_takesItem 422 = .ok (.iastore, 1) := by decide +kernel
theorem dX6_takesItem_423 : decode cX6_takesItem 423 = .ok (.iload 4, 2) := by decide +kernel
theorem dX6_takesItem_425 : decode cX6_takesItem 425 = .ok (.ireturn, 1) := by decide +kernel
theorem dX6_takesItem_426 : decode cX6_takesItem 426 = .ok (.aload_n 0, 1) := by decide +kernel
theorem dX6_takesItem_427 : decode cX6_takesItem 427 = .ok (.iconst 1, 1) := by decide +kernel
theorem dX6_takesItem_428 : decode cX6_takesItem 428 = .ok (.invokevirtual 76, 3) := by decide +kernel
theorem dX6_takesItem_431 : decode cX6_takesItem 431 = .ok (.ifCond .eq 17, 3) := by decide +kernel
theorem dX6_takesItem_434 : decode cX6_takesItem 434 = .ok (.aload_n 0, 1) := by decide +kernel
theorem dX6_takesItem_435 : decode cX6_takesItem 435 = .ok (.getfield 19, 3) := by decide +kernel
theorem dX6_takesItem_438 : decode cX6_takesItem 438 = .ok (.iconst 0, 1) := by decide +kernel
theorem dX6_takesItem_439 : decode cX6_takesItem 439 = .ok (.iaload, 1) := by decide +kernel
theorem dX6_takesItem_440 : decode cX6_takesItem 440 = .ok (.iconst 4, 1) := by decide +kernel
theorem dX6_takesItem_441 : decode cX6_takesItem 441 = .ok (.if_icmp .ge 7, 3) := by decide +kernel
theorem dX6_takesItem_444 : decode cX6_takesItem 444 = .ok (.iconst 1, 1) := by decide +kernel
theorem dX6_takesItem_445 : decode cX6_takesItem 445 = .ok (.goto 4, 3) := by decide +kernel
theorem dX6_takesItem_448 : decode cX6_takesItem 448 = .ok (.iconst 0, 1) := by decide +kernel
theorem dX6_takesItem_449 : decode cX6_takesItem 449 = .ok (.istore 5, 2) := by decide +kernel
theorem dX6_takesItem_451 : decode cX6_takesItem 451 = .ok (.aload_n 0, 1) := by decide +kernel
theorem dX6_takesItem_452 : decode cX6_takesItem 452 = .ok (.getfield 7, 3) := by decide +kernel
theorem dX6_takesItem_455 : decode cX6_takesItem 455 = .ok (.bipush 104, 2) := by decide +kernel
theorem dX6_takesItem_457 : decode cX6_takesItem 457 = .ok (.aload_n 0, 1) := by decide +kernel
theorem dX6_takesItem_458 : decode cX6_takesItem 458 = .ok (.getfield 19, 3) := by decide +kernel
theorem dX6_takesItem_461 : decode cX6_takesItem 461 = .ok (.iconst 0, 1) := by decide +kernel
theorem dX6_takesItem_462 : decode cX6_takesItem 462 = .ok (.iaload, 1) := by decide +kernel
theorem dX6_takesItem_463 : decode cX6_takesItem 463 = .ok (.iastore, 1) := by decide +kernel
theorem dX6_takesItem_464 : decode cX6_takesItem 464 = .ok (.iload 5, 2) := by decide +kernel
theorem dX6_takesItem_466 : decode cX6_takesItem 466 = .ok (.ireturn, 1) := by decide +kernel
theorem dX6_takesItem_467 : decode cX6_takesItem 467 = .ok (.aload_n 0, 1) := by decide +kernel
theorem dX6_takesItem_468 : decode cX6_takesItem 468 = .ok (.iconst 1, 1) := by decide +kernel
theorem dX6_takesItem_469 : decode cX6_takesItem 469 = .ok (.invokevirtual 76, 3) := by decide +kernel
theorem dX6_takesItem_472 : decode cX6_takesItem 472 = .ok (.ifCond .eq 24, 3) := by decide +kernel
theorem dX6_takesItem_475 : decode cX6_takesItem 475 = .ok (.aload_n 0, 1) := by decide +kernel
theorem dX6_takesItem_476 : decode cX6_takesItem 476 = .ok (.getfield 19, 3) := by decide +kernel
theorem dX6_takesItem_479 : decode cX6_takesItem 479 = .ok (.iconst 0, 1) := by decide +kernel
theorem dX6_takesItem_480 : decode cX6_takesItem 480 = .ok (.iaload, 1) := by decide +kernel
theorem dX6_takesItem_481 : decode cX6_takesItem 481 = .ok (.i2l, 1) := by decide +kernel
theorem dX6_takesItem_482 : decode cX6_takesItem 482 = .ok (.lconst 1, 1) := by decide +kernel
theorem dX6_takesItem_483 : decode cX6_takesItem 483 = .ok (.ldc2_w 85, 3) := by decide +kernel
theorem dX6_takesItem_486 : decode cX6_takesItem 486 = .ok (.invokestatic 58, 3) := by decide +kernel
theorem dX6_takesItem_489 : decode cX6_takesItem 489 = .ok (.ifCond .eq 7, 3) := by decide +kernel
theorem dX6_takesItem_492 : decode cX6_takesItem 492 = .ok (.iconst 1, 1) := by decide +kernel
theorem dX6_takesItem_493 : decode cX6_takesItem 493 = .ok (.goto 4, 3) := by decide +kernel
theorem dX6_takesItem_496 : decode cX6_takesItem 496 = .ok (.iconst 0, 1) := by decide +kernel
theorem dX6_takesItem_497 : decode cX6_takesItem 497 = .ok (.istore 6, 2) := by decide +kernel
theorem dX6_takesItem_499 : decode cX6_takesItem 499 = .ok (.aload_n 0, 1) := by decide +kernel
theorem dX6_takesItem_500 : decode cX6_takesItem 500 = .ok (.getfield 7, 3) := by decide +kernel
theorem dX6_takesItem_503 : decode cX6_takesItem 503 = .ok (.bipush 105, 2) := by decide +kernel
theorem dX6_takesItem_505 : decode cX6_takesItem 505 = .ok (.aload_n 0, 1) := by decide +kernel
theorem dX6_takesItem_506 : decode cX6_takesItem 506 = .ok (.getfield 19, 3) := by decide +kernel
theorem dX6_takesItem_509 : decode cX6_takesItem 509 = .ok (.iconst 0, 1) := by decide +kernel
theorem dX6_takesItem_510 : decode cX6_takesItem 510 = .ok (.iaload, 1) := by decide +kernel
theorem dX6_takesItem_511 : decode cX6_takesItem 511 = .ok (.iastore, 1) := by decide +kernel
theorem dX6_takesItem_512 : decode cX6_takesItem 512 = .ok (.iload 6, 2) := by decide +kernel
theorem dX6_takesItem_514 : decode cX6_takesItem 514 = .ok (.ireturn, 1) := by decide +kernel
theorem dX6_takesItem_515 : decode cX6_takesItem 515 = .ok (.iconst 0, 1) := by decide +kernel
theorem dX6_takesItem_516 : decode cX6_takesItem 516 = .ok (.ireturn, 1) := by decide +kernel
set_option maxRecDepth 20000 in
theorem ggX6_faultOf_X6_begins : GoodIn wsX6_faultOf wsX6_begins := goodIn_r _ [7, 8, 38, 39, 40, 41, 42, 43, 44, 45, 46, 47, 48, 49, 50, 51, 52] (by decide +kernel) (by decide +kernel)
set_option maxRecDepth 20000 in
theorem gX6_faultOf_X6_begins : GoodIn wsX6_faultOf (wsV RX6 34 RX6 yX6_begins wsX6_begins) := goodIn_app (goodIn_of _ (by decide +kernel)) ggX6_faultOf_X6_begins
set_option maxRecDepth 20000 in
theorem ggX6_faultOf_X6_takesItem : GoodIn wsX6_faultOf wsX6_takesItem := goodIn_r _ [12, 1, 13, 14, 8, 15, 16, 17, 18, 6, 19, 2, 20, 21, 22, 23, 24, 25, 26, 27, 28, 29, 30, 31, 32, 33, 34, 35, 36, 37, 38, 39, 40, 41, 42, 43, 44, 45, 46, 47, 48, 49, 50, 51, 52] (by decide +kernel) (by decide +kernel)
set_option maxRecDepth 20000 in
theorem gX6_faultOf_X6_takesItem : GoodIn wsX6_faultOf (wsV RX6 87 RX6 yX6_takesItem wsX6_takesItem) := goodIn_app (goodIn_of _ (by decide +kernel)) ggX6_faultOf_X6_takesItem
theorem dX6_faultOf_0 : decode cX6_faultOf 0 = .ok (.aload_n 0, 1) := by decide +kernel
theorem dX6_faultOf_1 : decode cX6_faultOf 1 = .ok (.invokevirtual 34, 3) := by decide +kernel
theorem dX6_faultOf_4 : decode cX6_faultOf 4 = .ok (.aload_n 0, 1) := by decide +kernel
theorem dX6_faultOf_5 : decode cX6_faultOf 5 = .ok (.iconst 0, 1) := by decide +kernel
theorem dX6_faultOf_6 : decode cX6_faultOf 6 = .ok (.putfield 65, 3) := by decide +kernel
theorem dX6_faultOf_9 : decode cX6_faultOf 9 = .ok (.aload_n 0, 1) := by decide +kernel
theorem dX6_faultOf_10 : decode cX6_faultOf 10 = .ok (.getfield 65, 3) := by decide +kernel
theorem dX6_faultOf_13 : decode cX6_faultOf 13 = .ok (.aload_n 0, 1) := by decide +kernel
theorem dX6_faultOf_14 : decode cX6_faultOf 14 = .ok (.getfield 62, 3) := by decide +kernel
theorem dX6_faultOf_17 : decode cX6_faultOf 17 = .ok (.if_icmp .ge 20, 3) := by decide +kernel
theorem dX6_faultOf_20 : decode cX6_faultOf 20 = .ok (.aload_n 0, 1) := by decide +kernel
theorem dX6_faultOf_21 : decode cX6_faultOf 21 = .ok (.getfield 65, 3) := by decide +kernel
theorem dX6_faultOf_24 : decode cX6_faultOf 24 = .ok (.istore_n 1, 1) := by decide +kernel
theorem dX6_faultOf_25 : decode cX6_faultOf 25 = .ok (.aload_n 0, 1) := by decide +kernel
theorem dX6_faultOf_26 : decode cX6_faultOf 26 = .ok (.invokevirtual 87, 3) := by decide +kernel
theorem dX6_faultOf_29 : decode cX6_faultOf 29 = .ok (.ifCond .ne 5, 3) := by decide +kernel
theorem dX6_faultOf_32 : decode cX6_faultOf 32 = .ok (.iload_n 1, 1) := by decide +kernel
theorem dX6_faultOf_33 : decode cX6_faultOf 33 = .ok (.ireturn, 1) := by decide +kernel
theorem dX6_faultOf_34 : decode cX6_faultOf 34 = .ok (.goto (-25), 3) := by decide +kernel
theorem dX6_faultOf_37 : decode cX6_faultOf 37 = .ok (.bipush (-4), 2) := by decide +kernel
theorem dX6_faultOf_39 : decode cX6_faultOf 39 = .ok (.ireturn, 1) := by decide +kernel
set_option maxRecDepth 20000 in
theorem ggX6_fault_X6_faultOf : GoodIn wsX6_fault wsX6_faultOf := goodIn_r _ [5, 6, 7, 8, 9, 10, 4, 11, 12, 13, 14, 15, 16, 17, 18, 19, 20, 21, 22, 23, 24, 25, 26, 27, 28, 29, 30, 31, 32, 33, 34, 35, 36, 37, 38, 39, 40, 41, 42, 43, 44, 45, 46, 47, 48, 49, 50, 51, 52, 53, 54, 55, 56] (by decide +kernel) (by decide +kernel)
set_option maxRecDepth 20000 in
theorem gX6_fault_X6_faultOf : GoodIn wsX6_fault (wsV RX6 91 RX6 yX6_faultOf wsX6_faultOf) := goodIn_app (goodIn_of _ (by decide +kernel)) ggX6_fault_X6_faultOf
theorem dX6_fault_0 : decode cX6_fault 0 = .ok (.aload_n 0, 1) := by decide +kernel
theorem dX6_fault_1 : decode cX6_fault 1 = .ok (.invokevirtual 91, 3) := by decide +kernel
theorem dX6_fault_4 : decode cX6_fault 4 = .ok (.ireturn, 1) := by decide +kernel
set_option maxRecDepth 20000 in
theorem ggX6_lay_X6_faultOf : GoodIn wsX6_lay wsX6_faultOf := goodIn_r _ [6, 7, 8, 9, 10, 11, 5, 12, 1, 13, 14, 15, 16, 17, 18, 19, 20, 21, 22, 23, 24, 25, 26, 27, 28, 29, 30, 31, 32, 33, 34, 35, 36, 37, 38, 39, 40, 41, 50, 51, 52, 53, 54, 55, 56, 57, 58, 59, 60, 61, 62, 63, 64] (by decide +kernel) (by decide +kernel)
set_option maxRecDepth 20000 in
theorem gX6_lay_X6_faultOf : GoodIn wsX6_lay (wsV RX6 91 RX6 yX6_faultOf wsX6_faultOf) := goodIn_app (goodIn_of _ (by decide +kernel)) ggX6_lay_X6_faultOf
set_option maxRecDepth 20000 in
theorem ggX6_lay_X6_comes : GoodIn wsX6_lay wsX6_comes := goodIn_r _ [45, 1, 46, 47, 48, 49, 50, 51, 52, 53, 54, 55, 56, 57, 58, 59, 60, 61, 62, 63, 64] (by decide +kernel) (by decide +kernel)
set_option maxRecDepth 20000 in
theorem gX6_lay_X6_comes : GoodIn wsX6_lay (wsV RX6 41 RX6 yX6_comes wsX6_comes) := goodIn_app (goodIn_of _ (by decide +kernel)) ggX6_lay_X6_comes
theorem dX6_lay_0 : decode cX6_lay 0 = .ok (.aload_n 0, 1) := by decide +kernel
theorem dX6_lay_1 : decode cX6_lay 1 = .ok (.invokevirtual 91, 3) := by decide +kernel
theorem dX6_lay_4 : decode cX6_lay 4 = .ok (.bipush (-4), 2) := by decide +kernel
theorem dX6_lay_6 : decode cX6_lay 6 = .ok (.if_icmp .ne 17, 3) := by decide +kernel
theorem dX6_lay_9 : decode cX6_lay 9 = .ok (.aload_n 0, 1) := by decide +kernel
theorem dX6_lay_10 : decode cX6_lay 10 = .ok (.getfield 7, 3) := by decide +kernel
theorem dX6_lay_13 : decode cX6_lay 13 = .ok (.bipush 53, 2) := by decide +kernel
theorem dX6_lay_15 : decode cX6_lay 15 = .ok (.iaload, 1) := by decide +kernel
theorem dX6_lay_16 : decode cX6_lay 16 = .ok (.ifCond .le 7, 3) := by decide +kernel
theorem dX6_lay_19 : decode cX6_lay 19 = .ok (.iconst 1, 1) := by decide +kernel
theorem dX6_lay_20 : decode cX6_lay 20 = .ok (.goto 4, 3) := by decide +kernel
theorem dX6_lay_23 : decode cX6_lay 23 = .ok (.iconst 0, 1) := by decide +kernel
theorem dX6_lay_24 : decode cX6_lay 24 = .ok (.istore_n 1, 1) := by decide +kernel
theorem dX6_lay_25 : decode cX6_lay 25 = .ok (.iconst 0, 1) := by decide +kernel
theorem dX6_lay_26 : decode cX6_lay 26 = .ok (.istore_n 2, 1) := by decide +kernel
theorem dX6_lay_27 : decode cX6_lay 27 = .ok (.iload_n 2, 1) := by decide +kernel
theorem dX6_lay_28 : decode cX6_lay 28 = .ok (.aload_n 0, 1) := by decide +kernel
theorem dX6_lay_29 : decode cX6_lay 29 = .ok (.getfield 7, 3) := by decide +kernel
theorem dX6_lay_32 : decode cX6_lay 32 = .ok (.bipush 53, 2) := by decide +kernel
theorem dX6_lay_34 : decode cX6_lay 34 = .ok (.iaload, 1) := by decide +kernel
theorem dX6_lay_35 : decode cX6_lay 35 = .ok (.if_icmp .ge 51, 3) := by decide +kernel
theorem dX6_lay_38 : decode cX6_lay 38 = .ok (.iload_n 1, 1) := by decide +kernel
theorem dX6_lay_39 : decode cX6_lay 39 = .ok (.ifCond .eq 47, 3) := by decide +kernel
theorem dX6_lay_42 : decode cX6_lay 42 = .ok (.aload_n 0, 1) := by decide +kernel
theorem dX6_lay_43 : decode cX6_lay 43 = .ok (.getfield 7, 3) := by decide +kernel
theorem dX6_lay_46 : decode cX6_lay 46 = .ok (.bipush 78, 2) := by decide +kernel
theorem dX6_lay_48 : decode cX6_lay 48 = .ok (.iload_n 2, 1) := by decide +kernel
theorem dX6_lay_49 : decode cX6_lay 49 = .ok (.iadd, 1) := by decide +kernel
theorem dX6_lay_50 : decode cX6_lay 50 = .ok (.iaload, 1) := by decide +kernel
theorem dX6_lay_51 : decode cX6_lay 51 = .ok (.istore_n 3, 1) := by decide +kernel
theorem dX6_lay_52 : decode cX6_lay 52 = .ok (.iload_n 3, 1) := by decide +kernel
theorem dX6_lay_53 : decode cX6_lay 53 = .ok (.bipush 8, 2) := by decide +kernel
theorem dX6_lay_55 : decode cX6_lay 55 = .ok (.if_icmp .ge 19, 3) := by decide +kernel
theorem dX6_lay_58 : decode cX6_lay 58 = .ok (.iload_n 3, 1) := by decide +kernel
theorem dX6_lay_59 : decode cX6_lay 59 = .ok (.iload_n 2, 1) := by decide +kernel
theorem dX6_lay_60 : decode cX6_lay 60 = .ok (.if_icmp .eq 18, 3) := by decide +kernel
theorem dX6_lay_63 : decode cX6_lay 63 = .ok (.iload_n 3, 1) := by decide +kernel
theorem dX6_lay_64 : decode cX6_lay 64 = .ok (.aload_n 0, 1) := by decide +kernel
theorem dX6_lay_65 : decode cX6_lay 65 = .ok (.getfield 7, 3) := by decide +kernel
theorem dX6_lay_68 : decode cX6_lay 68 = .ok (.bipush 53, 2) := by decide +kernel
theorem dX6_lay_70 : decode cX6_lay 70 = .ok (.iaload, 1) := by decide +kernel
theorem dX6_lay_71 : decode cX6_lay 71 = .ok (.if_icmp .ge 7, 3) := by decide +kernel
theorem dX6_lay_74 : decode cX6_lay 74 = .ok (.iconst 1, 1) := by decide +kernel
theorem dX6_lay_75 : decode cX6_lay 75 = .ok (.goto 4, 3) := by decide +kernel
theorem dX6_lay_78 : decode cX6_lay 78 = .ok (.iconst 0, 1) := by decide +kernel
theorem dX6_lay_79 : decode cX6_lay 79 = .ok (.istore_n 1, 1) := by decide +kernel
theorem dX6_lay_80 : decode cX6_lay 80 = .ok (.iinc 2 1, 3) := by decide +kernel
theorem dX6_lay_83 : decode cX6_lay 83 = .ok (.goto (-56), 3) := by decide +kernel
theorem dX6_lay_86 : decode cX6_lay 86 = .ok (.iload_n 1, 1) := by decide +kernel
theorem dX6_lay_87 : decode cX6_lay 87 = .ok (.ifCond .ne 6, 3) := by decide +kernel
theorem dX6_lay_90 : decode cX6_lay 90 = .ok (.bipush (-2), 2) := by decide +kernel
theorem dX6_lay_92 : decode cX6_lay 92 = .ok (.ireturn, 1) := by decide +kernel
theorem dX6_lay_93 : decode cX6_lay 93 = .ok (.aload_n 0, 1) := by decide +kernel
theorem dX6_lay_94 : decode cX6_lay 94 = .ok (.invokevirtual 41, 3) := by decide +kernel
theorem dX6_lay_97 : decode cX6_lay 97 = .ok (.aload_n 0, 1) := by decide +kernel
theorem dX6_lay_98 : decode cX6_lay 98 = .ok (.getfield 7, 3) := by decide +kernel
theorem dX6_lay_101 : decode cX6_lay 101 = .ok (.iconst 0, 1) := by decide +kernel
theorem dX6_lay_102 : decode cX6_lay 102 = .ok (.iaload, 1) := by decide +kernel
theorem dX6_lay_103 : decode cX6_lay 103 = .ok (.ireturn, 1) := by decide +kernel
set_option maxRecDepth 20000 in
theorem ggX6_isDesk_X6_in : GoodIn wsX6_isDesk wsX6_in := goodIn_r _ [5] (by decide +kernel) (by decide +kernel)
set_option maxRecDepth 20000 in
theorem gX6_isDesk_X6_in : GoodIn wsX6_isDesk (va_wsS RX6 58 yX6_in wsX6_in) := goodIn_app (goodIn_of _ (by decide +kernel)) ggX6_isDesk_X6_in
theorem dX6_isDesk_0 : decode cX6_isDesk 0 = .ok (.iload_n 1, 1) := by decide +kernel
theorem dX6_isDesk_1 : decode cX6_isDesk 1 = .ok (.i2l, 1) := by decide +kernel
theorem dX6_isDesk_2 : decode cX6_isDesk 2 = .ok (.lconst 0, 1) := by decide +kernel
theorem dX6_isDesk_3 : decode cX6_isDesk 3 = .ok (.aload_n 0, 1) := by decide +kernel
theorem dX6_isDesk_4 : decode cX6_isDesk 4 = .ok (.getfield 7, 3) := by decide +kernel
theorem dX6_isDesk_7 : decode cX6_isDesk 7 = .ok (.iconst 0, 1) := by decide +kernel
theorem dX6_isDesk_8 : decode cX6_isDesk 8 = .ok (.iaload, 1) := by decide +kernel
theorem dX6_isDesk_9 : decode cX6_isDesk 9 = .ok (.iconst 1, 1) := by decide +kernel
theorem dX6_isDesk_10 : decode cX6_isDesk 10 = .ok (.isub, 1) := by decide +kernel
theorem dX6_isDesk_11 : decode cX6_isDesk 11 = .ok (.i2l, 1) := by decide +kernel
theorem dX6_isDesk_12 : decode cX6_isDesk 12 = .ok (.invokestatic 58, 3) := by decide +kernel
theorem dX6_isDesk_15 : decode cX6_isDesk 15 = .ok (.ireturn, 1) := by decide +kernel
set_option maxRecDepth 20000 in
theorem ggX6_isSet_X6_in : GoodIn wsX6_isSet wsX6_in := goodIn_r _ [5] (by decide +kernel) (by decide +kernel)
set_option maxRecDepth 20000 in
theorem gX6_isSet_X6_in : GoodIn wsX6_isSet (va_wsS RX6 58 yX6_in wsX6_in) := goodIn_app (goodIn_of _ (by decide +kernel)) ggX6_isSet_X6_in
theorem dX6_isSet_0 : decode cX6_isSet 0 = .ok (.iload_n 1, 1) := by decide +kernel
theorem dX6_isSet_1 : decode cX6_isSet 1 = .ok (.i2l, 1) := by decide +kernel
theorem dX6_isSet_2 : decode cX6_isSet 2 = .ok (.lconst 0, 1) := by decide +kernel
theorem dX6_isSet_3 : decode cX6_isSet 3 = .ok (.iconst 1, 1) := by decide +kernel
theorem dX6_isSet_4 : decode cX6_isSet 4 = .ok (.aload_n 0, 1) := by decide +kernel
theorem dX6_isSet_5 : decode cX6_isSet 5 = .ok (.getfield 7, 3) := by decide +kernel
theorem dX6_isSet_8 : decode cX6_isSet 8 = .ok (.iconst 0, 1) := by decide +kernel
theorem dX6_isSet_9 : decode cX6_isSet 9 = .ok (.iaload, 1) := by decide +kernel
theorem dX6_isSet_10 : decode cX6_isSet 10 = .ok (.ishl, 1) := by decide +kernel
theorem dX6_isSet_11 : decode cX6_isSet 11 = .ok (.iconst 1, 1) := by decide +kernel
theorem dX6_isSet_12 : decode cX6_isSet 12 = .ok (.isub, 1) := by decide +kernel
theorem dX6_isSet_13 : decode cX6_isSet 13 = .ok (.i2l, 1) := by decide +kernel
theorem dX6_isSet_14 : decode cX6_isSet 14 = .ok (.invokestatic 58, 3) := by decide +kernel
theorem dX6_isSet_17 : decode cX6_isSet 17 = .ok (.ireturn, 1) := by decide +kernel
set_option maxRecDepth 20000 in
theorem ggX6_desk_X6_isDesk : GoodIn wsX6_desk wsX6_isDesk := goodIn_r _ [8, 3, 9, 10, 7, 11, 12, 13, 14, 15, 16, 17, 18, 19, 20, 21, 22, 23, 24, 25, 26] (by decide +kernel) (by decide +kernel)
set_option maxRecDepth 20000 in
theorem gX6_desk_X6_isDesk : GoodIn wsX6_desk (wsV RX6 95 RX6 yX6_isDesk wsX6_isDesk) := goodIn_app (goodIn_of _ (by decide +kernel)) ggX6_desk_X6_isDesk
set_option maxRecDepth 20000 in
theorem ggX6_desk_X6_in : GoodIn wsX6_desk wsX6_in := goodIn_r _ [11] (by decide +kernel) (by decide +kernel)
set_option maxRecDepth 20000 in
theorem gX6_desk_X6_in : GoodIn wsX6_desk (va_wsS RX6 58 yX6_in wsX6_in) := goodIn_app (goodIn_of _ (by decide +kernel)) ggX6_desk_X6_in
theorem dX6_desk_0 : decode cX6_desk 0 = .ok (.aload_n 0, 1) := by decide +kernel
theorem dX6_desk_1 : decode cX6_desk 1 = .ok (.iload_n 1, 1) := by decide +kernel
theorem dX6_desk_2 : decode cX6_desk 2 = .ok (.invokevirtual 95, 3) := by decide +kernel
theorem dX6_desk_5 : decode cX6_desk 5 = .ok (.ifCond .eq 15, 3) := by decide +kernel
theorem dX6_desk_8 : decode cX6_desk 8 = .ok (.iload_n 2, 1) := by decide +kernel
theorem dX6_desk_9 : decode cX6_desk 9 = .ok (.i2l, 1) := by decide +kernel
theorem dX6_desk_10 : decode cX6_desk 10 = .ok (.lconst 0, 1) := by decide +kernel
theorem dX6_desk_11 : decode cX6_desk 11 = .ok (.ldc2_w 98, 3) := by decide +kernel
theorem dX6_desk_14 : decode cX6_desk 14 = .ok (.invokestatic 58, 3) := by decide +kernel
theorem dX6_desk_17 : decode cX6_desk 17 = .ok (.ifCond .ne 5, 3) := by decide +kernel
theorem dX6_desk_20 : decode cX6_desk 20 = .ok (.iconst (-1), 1) := by decide +kernel
theorem dX6_desk_21 : decode cX6_desk 21 = .ok (.ireturn, 1) := by decide +kernel
theorem dX6_desk_22 : decode cX6_desk 22 = .ok (.iload_n 2, 1) := by decide +kernel
theorem dX6_desk_23 : decode cX6_desk 23 = .ok (.iconst 3, 1) := by decide +kernel
theorem dX6_desk_24 : decode cX6_desk 24 = .ok (.if_icmp .ne 15, 3) := by decide +kernel
theorem dX6_desk_27 : decode cX6_desk 27 = .ok (.aload_n 0, 1) := by decide +kernel
theorem dX6_desk_28 : decode cX6_desk 28 = .ok (.getfield 13, 3) := by decide +kernel
theorem dX6_desk_31 : decode cX6_desk 31 = .ok (.bipush 10, 2) := by decide +kernel
theorem dX6_desk_33 : decode cX6_desk 33 = .ok (.iload_n 1, 1) := by decide +kernel
theorem dX6_desk_34 : decode cX6_desk 34 = .ok (.iadd, 1) := by decide +kernel
theorem dX6_desk_35 : decode cX6_desk 35 = .ok (.iaload, 1) := by decide +kernel
theorem dX6_desk_36 : decode cX6_desk 36 = .ok (.goto 16, 3) := by decide +kernel
theorem dX6_desk_39 : decode cX6_desk 39 = .ok (.aload_n 0, 1) := by decide +kernel
theorem dX6_desk_40 : decode cX6_desk 40 = .ok (.getfield 7, 3) := by decide +kernel
theorem dX6_desk_43 : decode cX6_desk 43 = .ok (.iconst 1, 1) := by decide +kernel
theorem dX6_desk_44 : decode cX6_desk 44 = .ok (.bipush 8, 2) := by decide +kernel
theorem dX6_desk_46 : decode cX6_desk 46 = .ok (.iload_n 2, 1) := by decide +kernel
theorem dX6_desk_47 : decode cX6_desk 47 = .ok (.imul, 1) := by decide +kernel
theorem dX6_desk_48 : decode cX6_desk 48 = .ok (.iadd, 1) := by decide +kernel
theorem dX6_desk_49 : decode cX6_desk 49 = .ok (.iload_n 1, 1) := by decide +kernel
theorem dX6_desk_50 : decode cX6_desk 50 = .ok (.iadd, 1) := by decide +kernel
theorem dX6_desk_51 : decode cX6_desk 51 = .ok (.iaload, 1) := by decide +kernel
theorem dX6_desk_52 : decode cX6_desk 52 = .ok (.ireturn, 1) := by decide +kernel
set_option maxRecDepth 20000 in
theorem ggX6_off_X6_isDesk : GoodIn wsX6_off wsX6_isDesk := goodIn_r _ [6, 7, 8, 9, 5, 10, 11, 12, 13, 14, 15, 16, 17, 18, 19, 20, 21, 22, 23, 24, 25] (by decide +kernel) (by decide +kernel)
set_option maxRecDepth 20000 in
theorem gX6_off_X6_isDesk : GoodIn wsX6_off (wsV RX6 95 RX6 yX6_isDesk wsX6_isDesk) := goodIn_app (goodIn_of _ (by decide +kernel)) ggX6_off_X6_isDesk
theorem dX6_off_0 : decode cX6_off 0 = .ok (.aload_n 0, 1) := by decide +kernel
theorem dX6_off_1 : decode cX6_off 1 = .ok (.iload_n 1, 1) := by decide +kernel
theorem dX6_off_2 : decode cX6_off 2 = .ok (.invokevirtual 95, 3) := by decide +kernel
theorem dX6_off_5 : decode cX6_off 5 = .ok (.ifCond .ne 9, 3) := by decide +kernel
theorem dX6_off_8 : decode cX6_off 8 = .ok (.iload_n 1, 1) := by decide +kernel
theorem dX6_off_9 : decode cX6_off 9 = .ok (.bipush 9, 2) := by decide +kernel
theorem dX6_off_11 : decode cX6_off 11 = .ok (.if_icmp .ne 29, 3) := by decide +kernel
theorem dX6_off_14 : decode cX6_off 14 = .ok (.aload_n 0, 1) := by decide +kernel
theorem dX6_off_15 : decode cX6_off 15 = .ok (.getfield 13, 3) := by decide +kernel
theorem dX6_off_18 : decode cX6_off 18 = .ok (.iconst 0, 1) := by decide +kernel
theorem dX6_off_19 : decode cX6_off 19 = .ok (.iload_n 1, 1) := by decide +kernel
theorem dX6_off_20 : decode cX6_off 20 = .ok (.bipush 9, 2) := by decide +kernel
theorem dX6_off_22 : decode cX6_off 22 = .ok (.if_icmp .ne 8, 3) := by decide +kernel
theorem dX6_off_25 : decode cX6_off 25 = .ok (.bipush 8, 2) := by decide +kernel
theorem dX6_off_27 : decode cX6_off 27 = .ok (.goto 4, 3) := by decide +kernel
theorem dX6_off_30 : decode cX6_off 30 = .ok (.iload_n 1, 1) := by decide +kernel
theorem dX6_off_31 : decode cX6_off 31 = .ok (.iadd, 1) := by decide +kernel
theorem dX6_off_32 : decode cX6_off 32 = .ok (.iaload, 1) := by decide +kernel
theorem dX6_off_33 : decode cX6_off 33 = .ok (.sipush 1000, 3) := by decide +kernel
theorem dX6_off_36 : decode cX6_off 36 = .ok (.iadd, 1) := by decide +kernel
theorem dX6_off_37 : decode cX6_off 37 = .ok (.goto 4, 3) := by decide +kernel
theorem dX6_off_40 : decode cX6_off 40 = .ok (.iconst (-1), 1) := by decide +kernel
theorem dX6_off_41 : decode cX6_off 41 = .ok (.ireturn, 1) := by decide +kernel
theorem dX6_lays_0 : decode cX6_lays 0 = .ok (.iconst 0, 1) := by decide +kernel
theorem dX6_lays_1 : decode cX6_lays 1 = .ok (.istore_n 1, 1) := by decide +kernel
theorem dX6_lays_2 : decode cX6_lays 2 = .ok (.iload_n 1, 1) := by decide +kernel
theorem dX6_lays_3 : decode cX6_lays 3 = .ok (.bipush 18, 2) := by decide +kernel
theorem dX6_lays_5 : decode cX6_lays 5 = .ok (.if_icmp .ge 25, 3) := by decide +kernel
theorem dX6_lays_8 : decode cX6_lays 8 = .ok (.aload_n 0, 1) := by decide +kernel
theorem dX6_lays_9 : decode cX6_lays 9 = .ok (.getfield 13, 3) := by decide +kernel
theorem dX6_lays_12 : decode cX6_lays 12 = .ok (.sipush 198, 3) := by decide +kernel
theorem dX6_lays_15 : decode cX6_lays 15 = .ok (.iload_n 1, 1) := by decide +kernel
theorem dX6_lays_16 : decode cX6_lays 16 = .ok (.iadd, 1) := by decide +kernel
theorem dX6_lays_17 : decode cX6_lays 17 = .ok (.aload_n 0, 1) := by decide +kernel
theorem dX6_lays_18 : decode cX6_lays 18 = .ok (.getfield 13, 3) := by decide +kernel
theorem dX6_lays_21 : decode cX6_lays 21 = .ok (.iload_n 1, 1) := by decide +kernel
theorem dX6_lays_22 : decode cX6_lays 22 = .ok (.iaload, 1) := by decide +kernel
theorem dX6_lays_23 : decode cX6_lays 23 = .ok (.iastore, 1) := by decide +kernel
theorem dX6_lays_24 : decode cX6_lays 24 = .ok (.iinc 1 1, 3) := by decide +kernel
theorem dX6_lays_27 : decode cX6_lays 27 = .ok (.goto (-25), 3) := by decide +kernel
theorem dX6_lays_30 : decode cX6_lays 30 = .ok (.return_, 1) := by decide +kernel
theorem dX6_laysLeans_0 : decode cX6_laysLeans 0 = .ok (.iconst 0, 1) := by decide +kernel
theorem dX6_laysLeans_1 : decode cX6_laysLeans 1 = .ok (.istore_n 1, 1) := by decide +kernel
theorem dX6_laysLeans_2 : decode cX6_laysLeans 2 = .ok (.iload_n 1, 1) := by decide +kernel
theorem dX6_laysLeans_3 : decode cX6_laysLeans 3 = .ok (.bipush 8, 2) := by decide +kernel
theorem dX6_laysLeans_5 : decode cX6_laysLeans 5 = .ok (.if_icmp .ge 26, 3) := by decide +kernel
theorem dX6_laysLeans_8 : decode cX6_laysLeans 8 = .ok (.aload_n 0, 1) := by decide +kernel
theorem dX6_laysLeans_9 : decode cX6_laysLeans 9 = .ok (.getfield 25, 3) := by decide +kernel
theorem dX6_laysLeans_12 : decode cX6_laysLeans 12 = .ok (.iload_n 1, 1) := by decide +kernel
theorem dX6_laysLeans_13 : decode cX6_laysLeans 13 = .ok (.aload_n 0, 1) := by decide +kernel
theorem dX6_laysLeans_14 : decode cX6_laysLeans 14 = .ok (.getfield 7, 3) := by decide +kernel
theorem dX6_laysLeans_17 : decode cX6_laysLeans 17 = .ok (.bipush 9, 2) := by decide +kernel
theorem dX6_laysLeans_19 : decode cX6_laysLeans 19 = .ok (.iload_n 1, 1) := by decide +kernel
theorem dX6_laysLeans_20 : decode cX6_laysLeans 20 = .ok (.iadd, 1) := by decide +kernel
theorem dX6_laysLeans_21 : decode cX6_laysLeans 21 = .ok (.iaload, 1) := by decide +kernel
theorem dX6_laysLeans_22 : decode cX6_laysLeans 22 = .ok (.iconst 3, 1) := by decide +kernel
theorem dX6_laysLeans_23 : decode cX6_laysLeans 23 = .ok (.isub, 1) := by decide +kernel
theorem dX6_laysLeans_24 : decode cX6_laysLeans 24 = .ok (.iastore, 1) := by decide +kernel
theorem dX6_laysLeans_25 : decode cX6_laysLeans 25 = .ok (.iinc 1 1, 3) := by decide +kernel
theorem dX6_laysLeans_28 : decode cX6_laysLeans 28 = .ok (.goto (-26), 3) := by decide +kernel
theorem dX6_laysLeans_31 : decode cX6_laysLeans 31 = .ok (.aload_n 0, 1) := by decide +kernel
theorem dX6_laysLeans_32 : decode cX6_laysLeans 32 = .ok (.iconst (-1), 1) := by decide +kernel
theorem dX6_laysLeans_33 : decode cX6_laysLeans 33 = .ok (.putfield 100, 3) := by decide +kernel
theorem dX6_laysLeans_36 : decode cX6_laysLeans 36 = .ok (.aload_n 0, 1) := by decide +kernel
theorem dX6_laysLeans_37 : decode cX6_laysLeans 37 = .ok (.iconst 0, 1) := by decide +kernel
theorem dX6_laysLeans_38 : decode cX6_laysLeans 38 = .ok (.putfield 103, 3) := by decide +kernel
theorem dX6_laysLeans_41 : decode cX6_laysLeans 41 = .ok (.return_, 1) := by decide +kernel
theorem dX6_drawNext_0 : decode cX6_drawNext 0 = .ok (.ldc2_w 106, 3) := by decide +kernel
theorem dX6_drawNext_3 : decode cX6_drawNext 3 = .ok (.aload_n 0, 1) := by decide +kernel
theorem dX6_drawNext_4 : decode cX6_drawNext 4 = .ok (.getfield 100, 3) := by decide +kernel
theorem dX6_drawNext_7 : decode cX6_drawNext 7 = .ok (.i2l, 1) := by decide +kernel
theorem dX6_drawNext_8 : decode cX6_drawNext 8 = .ok (.lmul, 1) := by decide +kernel
theorem dX6_drawNext_9 : decode cX6_drawNext 9 = .ok (.ldc2_w 108, 3) := by decide +kernel
theorem dX6_drawNext_12 : decode cX6_drawNext 12 = .ok (.aload_n 0, 1) := by decide +kernel
theorem dX6_drawNext_13 : decode cX6_drawNext 13 = .ok (.getfield 103, 3) := by decide +kernel
theorem dX6_drawNext_16 : decode cX6_drawNext 16 = .ok (.i2l, 1) := by decide +kernel
theorem dX6_drawNext_17 : decode cX6_drawNext 17 = .ok (.lmul, 1) := by decide +kernel
theorem dX6_drawNext_18 : decode cX6_drawNext 18 = .ok (.ladd, 1) := by decide +kernel
theorem dX6_drawNext_19 : decode cX6_drawNext 19 = .ok (.lconst 1, 1) := by decide +kernel
theorem dX6_drawNext_20 : decode cX6_drawNext 20 = .ok (.ladd, 1) := by decide +kernel
theorem dX6_drawNext_21 : decode cX6_drawNext 21 = .ok (.lstore_n 1, 1) := by decide +kernel
theorem dX6_drawNext_22 : decode cX6_drawNext 22 = .ok (.aload_n 0, 1) := by decide +kernel
theorem dX6_drawNext_23 : decode cX6_drawNext 23 = .ok (.dup, 1) := by decide +kernel
theorem dX6_drawNext_24 : decode cX6_drawNext 24 = .ok (.getfield 103, 3) := by decide +kernel
theorem dX6_drawNext_27 : decode cX6_drawNext 27 = .ok (.iconst 1, 1) := by decide +kernel
theorem dX6_drawNext_28 : decode cX6_drawNext 28 = .ok (.iadd, 1) := by decide +kernel
theorem dX6_drawNext_29 : decode cX6_drawNext 29 = .ok (.putfield 103, 3) := by decide +kernel
theorem dX6_drawNext_32 : decode cX6_drawNext 32 = .ok (.lload_n 1, 1) := by decide +kernel
theorem dX6_drawNext_33 : decode cX6_drawNext 33 = .ok (.lload_n 1, 1) := by decide +kernel
theorem dX6_drawNext_34 : decode cX6_drawNext 34 = .ok (.lmul, 1) := by decide +kernel
theorem dX6_drawNext_35 : decode cX6_drawNext 35 = .ok (.ldc2_w 110, 3) := by decide +kernel
theorem dX6_drawNext_38 : decode cX6_drawNext 38 = .ok (.lrem, 1) := by decide +kernel
theorem dX6_drawNext_39 : decode cX6_drawNext 39 = .ok (.ldc2_w 112, 3) := by decide +kernel
theorem dX6_drawNext_42 : decode cX6_drawNext 42 = .ok (.lrem, 1) := by decide +kernel
theorem dX6_drawNext_43 : decode cX6_drawNext 43 = .ok (.l2i, 1) := by decide +kernel
theorem dX6_drawNext_44 : decode cX6_drawNext 44 = .ok (.iconst 1, 1) := by decide +kernel
theorem dX6_drawNext_45 : decode cX6_drawNext 45 = .ok (.isub, 1) := by decide +kernel
theorem dX6_drawNext_46 : decode cX6_drawNext 46 = .ok (.ireturn, 1) := by decide +kernel
set_option maxRecDepth 20000 in
theorem ggX6_warms_X6_within : GoodIn wsX6_warms wsX6_within := goodIn_r _ [6] (by decide +kernel) (by decide +kernel)
set_option maxRecDepth 20000 in
theorem gX6_warms_X6_within : GoodIn wsX6_warms (va_wsS RX6 114 yX6_within wsX6_within) := goodIn_app (goodIn_of _ (by decide +kernel)) ggX6_warms_X6_within
theorem dX6_warms_0 : decode cX6_warms 0 = .ok (.iconst 0, 1) := by decide +kernel
theorem dX6_warms_1 : decode cX6_warms 1 = .ok (.istore_n 2, 1) := by decide +kernel
theorem dX6_warms_2 : decode cX6_warms 2 = .ok (.iload_n 2, 1) := by decide +kernel
theorem dX6_warms_3 : decode cX6_warms 3 = .ok (.aload_n 0, 1) := by decide +kernel
theorem dX6_warms_4 : decode cX6_warms 4 = .ok (.getfield 7, 3) := by decide +kernel
theorem dX6_warms_7 : decode cX6_warms 7 = .ok (.iconst 0, 1) := by decide +kernel
theorem dX6_warms_8 : decode cX6_warms 8 = .ok (.iaload, 1) := by decide +kernel
theorem dX6_warms_9 : decode cX6_warms 9 = .ok (.if_icmp .ge 86, 3) := by decide +kernel
theorem dX6_warms_12 : decode cX6_warms 12 = .ok (.aload_n 0, 1) := by decide +kernel
theorem dX6_warms_13 : decode cX6_warms 13 = .ok (.getfield 7, 3) := by decide +kernel
theorem dX6_warms_16 : decode cX6_warms 16 = .ok (.iconst 1, 1) := by decide +kernel
theorem dX6_warms_17 : decode cX6_warms 17 = .ok (.iload_n 2, 1) := by decide +kernel
theorem dX6_warms_18 : decode cX6_warms 18 = .ok (.iadd, 1) := by decide +kernel
theorem dX6_warms_19 : decode cX6_warms 19 = .ok (.iaload, 1) := by decide +kernel
theorem dX6_warms_20 : decode cX6_warms 20 = .ok (.ifCond .ne 7, 3) := by decide +kernel
theorem dX6_warms_23 : decode cX6_warms 23 = .ok (.iconst (-1), 1) := by decide +kernel
theorem dX6_warms_24 : decode cX6_warms 24 = .ok (.goto 37, 3) := by decide +kernel
theorem dX6_warms_27 : decode cX6_warms 27 = .ok (.aload_n 0, 1) := by decide +kernel
theorem dX6_warms_28 : decode cX6_warms 28 = .ok (.getfield 7, 3) := by decide +kernel
theorem dX6_warms_31 : decode cX6_warms 31 = .ok (.iconst 1, 1) := by decide +kernel
theorem dX6_warms_32 : decode cX6_warms 32 = .ok (.iload_n 2, 1) := by decide +kernel
theorem dX6_warms_33 : decode cX6_warms 33 = .ok (.iadd, 1) := by decide +kernel
theorem dX6_warms_34 : decode cX6_warms 34 = .ok (.iaload, 1) := by decide +kernel
theorem dX6_warms_35 : decode cX6_warms 35 = .ok (.iconst 1, 1) := by decide +kernel
theorem dX6_warms_36 : decode cX6_warms 36 = .ok (.if_icmp .ne 7, 3) := by decide +kernel
theorem dX6_warms_39 : decode cX6_warms 39 = .ok (.iconst 1, 1) := by decide +kernel
theorem dX6_warms_40 : decode cX6_warms 40 = .ok (.goto 21, 3) := by decide +kernel
theorem dX6_warms_43 : decode cX6_warms 43 = .ok (.aload_n 0, 1) := by decide +kernel
theorem dX6_warms_44 : decode cX6_warms 44 = .ok (.getfield 7, 3) := by decide +kernel
theorem dX6_warms_47 : decode cX6_warms 47 = .ok (.iconst 1, 1) := by decide +kernel
theorem dX6_warms_48 : decode cX6_warms 48 = .ok (.iload_n 2, 1) := by decide +kernel
theorem dX6_warms_49 : decode cX6_warms 49 = .ok (.iadd, 1) := by decide +kernel
theorem dX6_warms_50 : decode cX6_warms 50 = .ok (.iaload, 1) := by decide +kernel
theorem dX6_warms_51 : decode cX6_warms 51 = .ok (.iconst 3, 1) := by decide +kernel
theorem dX6_warms_52 : decode cX6_warms 52 = .ok (.if_icmp .ne 8, 3) := by decide +kernel
theorem dX6_warms_55 : decode cX6_warms 55 = .ok (.bipush (-2), 2) := by decide +kernel
theorem dX6_warms_57 : decode cX6_warms 57 = .ok (.goto 4, 3) := by decide +kernel
theorem dX6_warms_60 : decode cX6_warms 60 = .ok (.iconst 0, 1) := by decide +kernel
theorem dX6_warms_61 : decode cX6_warms 61 = .ok (.istore_n 3, 1) := by decide +kernel
theorem dX6_warms_62 : decode cX6_warms 62 = .ok (.aload_n 0, 1) := by decide +kernel
theorem dX6_warms_63 : decode cX6_warms 63 = .ok (.getfield 13, 3) := by decide +kernel
theorem dX6_warms_66 : decode cX6_warms 66 = .ok (.sipush 198, 3) := by decide +kernel
theorem dX6_warms_69 : decode cX6_warms 69 = .ok (.iload_n 2, 1) := by decide +kernel
theorem dX6_warms_70 : decode cX6_warms 70 = .ok (.iadd, 1) := by decide +kernel
theorem dX6_warms_71 : decode cX6_warms 71 = .ok (.aload_n 0, 1) := by decide +kernel
theorem dX6_warms_72 : decode cX6_warms 72 = .ok (.getfield 13, 3) := by decide +kernel
theorem dX6_warms_75 : decode cX6_warms 75 = .ok (.sipush 198, 3) := by decide +kernel
theorem dX6_warms_78 : decode cX6_warms 78 = .ok (.iload_n 2, 1) := by decide +kernel
theorem dX6_warms_79 : decode cX6_warms 79 = .ok (.iadd, 1) := by decide +kernel
theorem dX6_warms_80 : decode cX6_warms 80 = .ok (.iaload, 1) := by decide +kernel
theorem dX6_warms_81 : decode cX6_warms 81 = .ok (.iload_n 3, 1) := by decide +kernel
theorem dX6_warms_82 : decode cX6_warms 82 = .ok (.iload_n 1, 1) := by decide +kernel
theorem dX6_warms_83 : decode cX6_warms 83 = .ok (.imul, 1) := by decide +kernel
theorem dX6_warms_84 : decode cX6_warms 84 = .ok (.iadd, 1) := by decide +kernel
theorem dX6_warms_85 : decode cX6_warms 85 = .ok (.invokestatic 114, 3) := by decide +kernel
theorem dX6_warms_88 : decode cX6_warms 88 = .ok (.iastore, 1) := by decide +kernel
theorem dX6_warms_89 : decode cX6_warms 89 = .ok (.iinc 2 1, 3) := by decide +kernel
theorem dX6_warms_92 : decode cX6_warms 92 = .ok (.goto (-90), 3) := by decide +kernel
theorem dX6_warms_95 : decode cX6_warms 95 = .ok (.return_, 1) := by decide +kernel
set_option maxRecDepth 20000 in
theorem ggX6_passes_X6_warms : GoodIn wsX6_passes wsX6_warms := goodIn_r _ [7, 2, 1, 8, 9, 6, 10, 11, 12, 13, 14, 15, 16, 17, 18, 19, 20, 21, 22, 23, 24, 25] (by decide +kernel) (by decide +kernel)
set_option maxRecDepth 20000 in
theorem gX6_passes_X6_warms : GoodIn wsX6_passes (wsV RX6 117 RX6 yX6_warms wsX6_warms) := goodIn_app (goodIn_of _ (by decide +kernel)) ggX6_passes_X6_warms
theorem dX6_passes_0 : decode cX6_passes 0 = .ok (.aload_n 0, 1) := by decide +kernel
theorem dX6_passes_1 : decode cX6_passes 1 = .ok (.getfield 13, 3) := by decide +kernel
theorem dX6_passes_4 : decode cX6_passes 4 = .ok (.sipush 207, 3) := by decide +kernel
theorem dX6_passes_7 : decode cX6_passes 7 = .ok (.iaload, 1) := by decide +kernel
theorem dX6_passes_8 : decode cX6_passes 8 = .ok (.bipush 60, 2) := by decide +kernel
theorem dX6_passes_10 : decode cX6_passes 10 = .ok (.idiv, 1) := by decide +kernel
theorem dX6_passes_11 : decode cX6_passes 11 = .ok (.istore_n 2, 1) := by decide +kernel
theorem dX6_passes_12 : decode cX6_passes 12 = .ok (.aload_n 0, 1) := by decide +kernel
theorem dX6_passes_13 : decode cX6_passes 13 = .ok (.getfield 13, 3) := by decide +kernel
theorem dX6_passes_16 : decode cX6_passes 16 = .ok (.sipush 207, 3) := by decide +kernel
theorem dX6_passes_19 : decode cX6_passes 19 = .ok (.dup2, 1) := by decide +kernel
theorem dX6_passes_20 : decode cX6_passes 20 = .ok (.iaload, 1) := by decide +kernel
theorem dX6_passes_21 : decode cX6_passes 21 = .ok (.iload_n 1, 1) := by decide +kernel
theorem dX6_passes_22 : decode cX6_passes 22 = .ok (.iadd, 1) := by decide +kernel
theorem dX6_passes_23 : decode cX6_passes 23 = .ok (.iastore, 1) := by decide +kernel
theorem dX6_passes_24 : decode cX6_passes 24 = .ok (.aload_n 0, 1) := by decide +kernel
theorem dX6_passes_25 : decode cX6_passes 25 = .ok (.aload_n 0, 1) := by decide +kernel
theorem dX6_passes_26 : decode cX6_passes 26 = .ok (.getfield 7, 3) := by decide +kernel
theorem dX6_passes_29 : decode cX6_passes 29 = .ok (.bipush 51, 2) := by decide +kernel
theorem dX6_passes_31 : decode cX6_passes 31 = .ok (.iaload, 1) := by decide +kernel
theorem dX6_passes_32 : decode cX6_passes 32 = .ok (.aload_n 0, 1) := by decide +kernel
theorem dX6_passes_33 : decode cX6_passes 33 = .ok (.getfield 13, 3) := by decide +kernel
theorem dX6_passes_36 : decode cX6_passes 36 = .ok (.sipush 207, 3) := by decide +kernel
theorem dX6_passes_39 : decode cX6_passes 39 = .ok (.iaload, 1) := by decide +kernel
theorem dX6_passes_40 : decode cX6_passes 40 = .ok (.bipush 60, 2) := by decide +kernel
theorem dX6_passes_42 : decode cX6_passes 42 = .ok (.idiv, 1) := by decide +kernel
theorem dX6_passes_43 : decode cX6_passes 43 = .ok (.iload_n 2, 1) := by decide +kernel
theorem dX6_passes_44 : decode cX6_passes 44 = .ok (.isub, 1) := by decide +kernel
theorem dX6_passes_45 : decode cX6_passes 45 = .ok (.imul, 1) := by decide +kernel
theorem dX6_passes_46 : decode cX6_passes 46 = .ok (.invokevirtual 117, 3) := by decide +kernel
theorem dX6_passes_49 : decode cX6_passes 49 = .ok (.return_, 1) := by decide +kernel
set_option maxRecDepth 20000 in
theorem ggX6_open_X6_has : GoodIn wsX6_open wsX6_has := goodIn_r _ [5] (by decide +kernel) (by decide +kernel)
set_option maxRecDepth 20000 in
theorem gX6_open_X6_has : GoodIn wsX6_open (va_wsS RX6 121 yX6_has wsX6_has) := goodIn_app (goodIn_of _ (by decide +kernel)) ggX6_open_X6_has
theorem dX6_open_0 : decode cX6_open 0 = .ok (.iconst 0, 1) := by decide +kernel
theorem dX6_open_1 : decode cX6_open 1 = .ok (.istore_n 2, 1) := by decide +kernel
theorem dX6_open_2 : decode cX6_open 2 = .ok (.iconst 0, 1) := by decide +kernel
theorem dX6_open_3 : decode cX6_open 3 = .ok (.istore_n 3, 1) := by decide +kernel
theorem dX6_open_4 : decode cX6_open 4 = .ok (.iload_n 3, 1) := by decide +kernel
theorem dX6_open_5 : decode cX6_open 5 = .ok (.aload_n 0, 1) := by decide +kernel
theorem dX6_open_6 : decode cX6_open 6 = .ok (.getfield 7, 3) := by decide +kernel
theorem dX6_open_9 : decode cX6_open 9 = .ok (.iconst 0, 1) := by decide +kernel
theorem dX6_open_10 : decode cX6_open 10 = .ok (.iaload, 1) := by decide +kernel
theorem dX6_open_11 : decode cX6_open 11 = .ok (.if_icmp .ge 39, 3) := by decide +kernel
theorem dX6_open_14 : decode cX6_open 14 = .ok (.iload_n 2, 1) := by decide +kernel
theorem dX6_open_15 : decode cX6_open 15 = .ok (.iload_n 1, 1) := by decide +kernel
theorem dX6_open_16 : decode cX6_open 16 = .ok (.iload_n 3, 1) := by decide +kernel
theorem dX6_open_17 : decode cX6_open 17 = .ok (.invokestatic 121, 3) := by decide +kernel
theorem dX6_open_20 : decode cX6_open 20 = .ok (.ifCond .eq 21, 3) := by decide +kernel
theorem dX6_open_23 : decode cX6_open 23 = .ok (.aload_n 0, 1) := by decide +kernel
theorem dX6_open_24 : decode cX6_open 24 = .ok (.getfield 7, 3) := by decide +kernel
theorem dX6_open_27 : decode cX6_open 27 = .ok (.iconst 1, 1) := by decide +kernel
theorem dX6_open_28 : decode cX6_open 28 = .ok (.iload_n 3, 1) := by decide +kernel
theorem dX6_open_29 : decode cX6_open 29 = .ok (.iadd, 1) := by decide +kernel
theorem dX6_open_30 : decode cX6_open 30 = .ok (.iaload, 1) := by decide +kernel
theorem dX6_open_31 : decode cX6_open 31 = .ok (.iconst 2, 1) := by decide +kernel
theorem dX6_open_32 : decode cX6_open 32 = .ok (.if_icmp .eq 9, 3) := by decide +kernel
theorem dX6_open_35 : decode cX6_open 35 = .ok (.iconst 1, 1) := by decide +kernel
theorem dX6_open_36 : decode cX6_open 36 = .ok (.iload_n 3, 1) := by decide +kernel
theorem dX6_open_37 : decode cX6_open 37 = .ok (.ishl, 1) := by decide +kernel
theorem dX6_open_38 : decode cX6_open 38 = .ok (.goto 4, 3) := by decide +kernel
theorem dX6_open_41 : decode cX6_open 41 = .ok (.iconst 0, 1) := by decide +kernel
theorem dX6_open_42 : decode cX6_open 42 = .ok (.ior, 1) := by decide +kernel
theorem dX6_open_43 : decode cX6_open 43 = .ok (.istore_n 2, 1) := by decide +kernel
theorem dX6_open_44 : decode cX6_open 44 = .ok (.iinc 3 1, 3) := by decide +kernel
theorem dX6_open_47 : decode cX6_open 47 = .ok (.goto (-43), 3) := by decide +kernel
theorem dX6_open_50 : decode cX6_open 50 = .ok (.iload_n 2, 1) := by decide +kernel
theorem dX6_open_51 : decode cX6_open 51 = .ok (.ireturn, 1) := by decide +kernel
set_option maxRecDepth 20000 in
theorem ggX6_tunes_X6_open : GoodIn wsX6_tunes wsX6_open := goodIn_r _ [10, 1, 11, 12, 9, 13, 37, 38, 39, 40, 41, 42, 43, 44, 45, 46, 47, 48, 49, 50, 51] (by decide +kernel) (by decide +kernel)
set_option maxRecDepth 20000 in
theorem gX6_tunes_X6_open : GoodIn wsX6_tunes (wsV RX6 125 RX6 yX6_open wsX6_open) := goodIn_app (goodIn_of _ (by decide +kernel)) ggX6_tunes_X6_open
set_option maxRecDepth 20000 in
theorem ggX6_tunes_X6_ones : GoodIn wsX6_tunes wsX6_ones := goodIn_r _ [16] (by decide +kernel) (by decide +kernel)
set_option maxRecDepth 20000 in
theorem gX6_tunes_X6_ones : GoodIn wsX6_tunes (va_wsS RX6 128 yX6_ones wsX6_ones) := goodIn_app (goodIn_of _ (by decide +kernel)) ggX6_tunes_X6_ones
set_option maxRecDepth 20000 in
theorem ggX6_tunes_X6_has : GoodIn wsX6_tunes wsX6_has := goodIn_r _ [13] (by decide +kernel) (by decide +kernel)
set_option maxRecDepth 20000 in
theorem gX6_tunes_X6_has : GoodIn wsX6_tunes (va_wsS RX6 121 yX6_has wsX6_has) := goodIn_app (goodIn_of _ (by decide +kernel)) ggX6_tunes_X6_has
set_option maxRecDepth 20000 in
theorem ggX6_tunes_X6_drawNext : GoodIn wsX6_tunes wsX6_drawNext := goodIn_r _ [20, 21, 5, 22, 23, 24, 25, 37, 38, 39, 40, 41, 42, 43, 44, 45, 46, 47, 48, 49, 50, 51] (by decide +kernel) (by decide +kernel)
set_option maxRecDepth 20000 in
theorem gX6_tunes_X6_drawNext : GoodIn wsX6_tunes (wsV RX6 131 RX6 yX6_drawNext wsX6_drawNext) := goodIn_app (goodIn_of _ (by decide +kernel)) ggX6_tunes_X6_drawNext
set_option maxRecDepth 20000 in
theorem ggX6_tunes_X6_within : GoodIn wsX6_tunes wsX6_within := goodIn_r _ [28] (by decide +kernel) (by decide +kernel)
set_option maxRecDepth 20000 in
theorem gX6_tunes_X6_within : GoodIn wsX6_tunes (va_wsS RX6 114 yX6_within wsX6_within) := goodIn_app (goodIn_of _ (by decide +kernel)) ggX6_tunes_X6_within
set_option maxRecDepth 20000 in
theorem ggX6_tunes_X6_passes : GoodIn wsX6_tunes wsX6_passes := goodIn_r _ [32, 3, 1, 33, 34, 35, 9, 36, 26, 27, 28, 37, 38, 39, 40, 41, 42, 43, 44, 45, 46, 47, 48, 49, 50, 51] (by decide +kernel) (by decide +kernel)
set_option maxRecDepth 20000 in
theorem gX6_tunes_X6_passes : GoodIn wsX6_tunes (wsV RX6 134 RX6 yX6_passes wsX6_passes) := goodIn_app (goodIn_of _ (by decide +kernel)) ggX6_tunes_X6_passes
theorem dX6_tunes_0 : decode cX6_tunes 0 = .ok (.aload_n 0, 1) := by decide +kernel
theorem dX6_tunes_1 : decode cX6_tunes 1 = .ok (.iload_n 1, 1) := by decide +kernel
theorem dX6_tunes_2 : decode cX6_tunes 2 = .ok (.invokevirtual 125, 3) := by decide +kernel
theorem dX6_tunes_5 : decode cX6_tunes 5 = .ok (.istore_n 2, 1) := by decide +kernel
theorem dX6_tunes_6 : decode cX6_tunes 6 = .ok (.iload_n 2, 1) := by decide +kernel
theorem dX6_tunes_7 : decode cX6_tunes 7 = .ok (.invokestatic 128, 3) := by decide +kernel
theorem dX6_tunes_10 : decode cX6_tunes 10 = .ok (.ifCond .le 14, 3) := by decide +kernel
theorem dX6_tunes_13 : decode cX6_tunes 13 = .ok (.iload_n 2, 1) := by decide +kernel
theorem dX6_tunes_14 : decode cX6_tunes 14 = .ok (.invokestatic 128, 3) := by decide +kernel
theorem dX6_tunes_17 : decode cX6_tunes 17 = .ok (.iconst 1, 1) := by decide +kernel
theorem dX6_tunes_18 : decode cX6_tunes 18 = .ok (.isub, 1) := by decide +kernel
theorem dX6_tunes_19 : decode cX6_tunes 19 = .ok (.iconst 2, 1) := by decide +kernel
theorem dX6_tunes_20 : decode cX6_tunes 20 = .ok (.idiv, 1) := by decide +kernel
theorem dX6_tunes_21 : decode cX6_tunes 21 = .ok (.goto 4, 3) := by decide +kernel
theorem dX6_tunes_24 : decode cX6_tunes 24 = .ok (.iconst 0, 1) := by decide +kernel
theorem dX6_tunes_25 : decode cX6_tunes 25 = .ok (.istore_n 3, 1) := by decide +kernel
theorem dX6_tunes_26 : decode cX6_tunes 26 = .ok (.iconst 0, 1) := by decide +kernel
theorem dX6_tunes_27 : decode cX6_tunes 27 = .ok (.istore 4, 2) := by decide +kernel
theorem dX6_tunes_29 : decode cX6_tunes 29 = .ok (.iconst 0, 1) := by decide +kernel
theorem dX6_tunes_30 : decode cX6_tunes 30 = .ok (.istore 5, 2) := by decide +kernel
theorem dX6_tunes_32 : decode cX6_tunes 32 = .ok (.iconst 0, 1) := by decide +kernel
theorem dX6_tunes_33 : decode cX6_tunes 33 = .ok (.istore 6, 2) := by decide +kernel
theorem dX6_tunes_35 : decode cX6_tunes 35 = .ok (.iload 6, 2) := by decide +kernel
theorem dX6_tunes_37 : decode cX6_tunes 37 = .ok (.aload_n 0, 1) := by decide +kernel
theorem dX6_tunes_38 : decode cX6_tunes 38 = .ok (.getfield 7, 3) := by decide +kernel
theorem dX6_tunes_41 : decode cX6_tunes 41 = .ok (.iconst 0, 1) := by decide +kernel
theorem dX6_tunes_42 : decode cX6_tunes 42 = .ok (.iaload, 1) := by decide +kernel
theorem dX6_tunes_43 : decode cX6_tunes 43 = .ok (.if_icmp .ge 188, 3) := by decide +kernel
theorem dX6_tunes_46 : decode cX6_tunes 46 = .ok (.aload_n 0, 1) := by decide +kernel
theorem dX6_tunes_47 : decode cX6_tunes 47 = .ok (.getfield 22, 3) := by decide +kernel
theorem dX6_tunes_50 : decode cX6_tunes 50 = .ok (.iload 6, 2) := by decide +kernel
theorem dX6_tunes_52 : decode cX6_tunes 52 = .ok (.aload_n 0, 1) := by decide +kernel
theorem dX6_tunes_53 : decode cX6_tunes 53 = .ok (.getfield 13, 3) := by decide +kernel
theorem dX6_tunes_56 : decode cX6_tunes 56 = .ok (.sipush 198, 3) := by decide +kernel
theorem dX6_tunes_59 : decode cX6_tunes 59 = .ok (.iload 6, 2) := by decide +kernel
theorem dX6_tunes_61 : decode cX6_tunes 61 = .ok (.iadd, 1) := by decide +kernel
theorem dX6_tunes_62 : decode cX6_tunes 62 = .ok (.iaload, 1) := by decide +kernel
theorem dX6_tunes_63 : decode cX6_tunes 63 = .ok (.iastore, 1) := by decide +kernel
theorem dX6_tunes_64 : decode cX6_tunes 64 = .ok (.iload_n 2, 1) := by decide +kernel
theorem dX6_tunes_65 : decode cX6_tunes 65 = .ok (.iload 6, 2) := by decide +kernel
theorem dX6_tunes_67 : decode cX6_tunes 67 = .ok (.invokestatic 121, 3) := by decide +kernel
theorem dX6_tunes_70 : decode cX6_tunes 70 = .ok (.ifCond .eq 155, 3) := by decide +kernel
theorem dX6_tunes_73 : decode cX6_tunes 73 = .ok (.aload_n 0, 1) := by decide +kernel
theorem dX6_tunes_74 : decode cX6_tunes 74 = .ok (.getfield 13, 3) := by decide +kernel
theorem dX6_tunes_77 : decode cX6_tunes 77 = .ok (.sipush 208, 3) := by decide +kernel
theorem dX6_tunes_80 : decode cX6_tunes 80 = .ok (.iload 6, 2) := by decide +kernel
theorem dX6_tunes_82 : decode cX6_tunes 82 = .ok (.iadd, 1) := by decide +kernel
theorem dX6_tunes_83 : decode cX6_tunes 83 = .ok (.iaload, 1) := by decide +kernel
theorem dX6_tunes_84 : decode cX6_tunes 84 = .ok (.istore 7, 2) := by decide +kernel
theorem dX6_tunes_86 : decode cX6_tunes 86 = .ok (.aload_n 0, 1) := by decide +kernel
theorem dX6_tunes_87 : decode cX6_tunes 87 = .ok (.getfield 13, 3) := by decide +kernel
theorem dX6_tunes_90 : decode cX6_tunes 90 = .ok (.sipush 198, 3) := by decide +kernel
theorem dX6_tunes_93 : decode cX6_tunes 93 = .ok (.iload 7, 2) := by decide +kernel
theorem dX6_tunes_95 : decode cX6_tunes 95 = .ok (.bipush 8, 2) := by decide +kernel
theorem dX6_tunes_97 : decode cX6_tunes 97 = .ok (.if_icmp .lt 8, 3) := by decide +kernel
theorem dX6_tunes_100 : decode cX6_tunes 100 = .ok (.bipush 8, 2) := by decide +kernel
theorem dX6_tunes_102 : decode cX6_tunes 102 = .ok (.goto 5, 3) := by decide +kernel
theorem dX6_tunes_105 : decode cX6_tunes 105 = .ok (.iload 7, 2) := by decide +kernel
theorem dX6_tunes_107 : decode cX6_tunes 107 = .ok (.iadd, 1) := by decide +kernel
theorem dX6_tunes_108 : decode cX6_tunes 108 = .ok (.iaload, 1) := by decide +kernel
theorem dX6_tunes_109 : decode cX6_tunes 109 = .ok (.istore 8, 2) := by decide +kernel
theorem dX6_tunes_111 : decode cX6_tunes 111 = .ok (.aload_n 0, 1) := by decide +kernel
theorem dX6_tunes_112 : decode cX6_tunes 112 = .ok (.getfield 22, 3) := by decide +kernel
theorem dX6_tunes_115 : decode cX6_tunes 115 = .ok (.iload 6, 2) := by decide +kernel
theorem dX6_tunes_117 : decode cX6_tunes 117 = .ok (.iload 7, 2) := by decide +kernel
theorem dX6_tunes_119 : decode cX6_tunes 119 = .ok (.bipush 8, 2) := by decide +kernel
theorem dX6_tunes_121 : decode cX6_tunes 121 = .ok (.if_icmp .ne 7, 3) := by decide +kernel
theorem dX6_tunes_124 : decode cX6_tunes 124 = .ok (.iconst 0, 1) := by decide +kernel
theorem dX6_tunes_125 : decode cX6_tunes 125 = .ok (.goto 15, 3) := by decide +kernel
theorem dX6_tunes_128 : decode cX6_tunes 128 = .ok (.iload 8, 2) := by decide +kernel
theorem dX6_tunes_130 : decode cX6_tunes 130 = .ok (.aload_n 0, 1) := by decide +kernel
theorem dX6_tunes_131 : decode cX6_tunes 131 = .ok (.getfield 25, 3) := by decide +kernel
theorem dX6_tunes_134 : decode cX6_tunes 134 = .ok (.iload 6, 2) := by decide +kernel
theorem dX6_tunes_136 : decode cX6_tunes 136 = .ok (.iaload, 1) := by decide +kernel
theorem dX6_tunes_137 : decode cX6_tunes 137 = .ok (.iadd, 1) := by decide +kernel
theorem dX6_tunes_138 : decode cX6_tunes 138 = .ok (.iload_n 3, 1) := by decide +kernel
theorem dX6_tunes_139 : decode cX6_tunes 139 = .ok (.iadd, 1) := by decide +kernel
theorem dX6_tunes_140 : decode cX6_tunes 140 = .ok (.iastore, 1) := by decide +kernel
theorem dX6_tunes_141 : decode cX6_tunes 141 = .ok (.aload_n 0, 1) := by decide +kernel
theorem dX6_tunes_142 : decode cX6_tunes 142 = .ok (.getfield 22, 3) := by decide +kernel
theorem dX6_tunes_145 : decode cX6_tunes 145 = .ok (.iload 6, 2) := by decide +kernel
theorem dX6_tunes_147 : decode cX6_tunes 147 = .ok (.aload_n 0, 1) := by decide +kernel
theorem dX6_tunes_148 : decode cX6_tunes 148 = .ok (.getfield 22, 3) := by decide +kernel
theorem dX6_tunes_151 : decode cX6_tunes 151 = .ok (.iload 6, 2) := by decide +kernel
theorem dX6_tunes_153 : decode cX6_tunes 153 = .ok (.iaload, 1) := by decide +kernel
theorem dX6_tunes_154 : decode cX6_tunes 154 = .ok (.aload_n 0, 1) := by decide +kernel
theorem dX6_tunes_155 : decode cX6_tunes 155 = .ok (.getfield 100, 3) := by decide +kernel
theorem dX6_tunes_158 : decode cX6_tunes 158 = .ok (.ifCond .ge 7, 3) := by decide +kernel
theorem dX6_tunes_161 : decode cX6_tunes 161 = .ok (.iconst 0, 1) := by decide +kernel
theorem dX6_tunes_162 : decode cX6_tunes 162 = .ok (.goto 7, 3) := by decide +kernel
theorem dX6_tunes_165 : decode cX6_tunes 165 = .ok (.aload_n 0, 1) := by decide +kernel
theorem dX6_tunes_166 : decode cX6_tunes 166 = .ok (.invokevirtual 131, 3) := by decide +kernel
theorem dX6_tunes_169 : decode cX6_tunes 169 = .ok (.iadd, 1) := by decide +kernel
theorem dX6_tunes_170 : decode cX6_tunes 170 = .ok (.invokestatic 114, 3) := by decide +kernel
theorem dX6_tunes_173 : decode cX6_tunes 173 = .ok (.iastore, 1) := by decide +kernel
theorem dX6_tunes_174 : decode cX6_tunes 174 = .ok (.aload_n 0, 1) := by decide +kernel
theorem dX6_tunes_175 : decode cX6_tunes 175 = .ok (.getfield 7, 3) := by decide +kernel
theorem dX6_tunes_178 : decode cX6_tunes 178 = .ok (.bipush 17, 2) := by decide +kernel
theorem dX6_tunes_180 : decode cX6_tunes 180 = .ok (.iload 6, 2) := by decide +kernel
theorem dX6_tunes_182 : decode cX6_tunes 182 = .ok (.iadd, 1) := by decide +kernel
theorem dX6_tunes_183 : decode cX6_tunes 183 = .ok (.iaload, 1) := by decide +kernel
theorem dX6_tunes_184 : decode cX6_tunes 184 = .ok (.iload 4, 2) := by decide +kernel
theorem dX6_tunes_186 : decode cX6_tunes 186 = .ok (.if_icmp .le 16, 3) := by decide +kernel
theorem dX6_tunes_189 : decode cX6_tunes 189 = .ok (.aload_n 0, 1) := by decide +kernel
theorem dX6_tunes_190 : decode cX6_tunes 190 = .ok (.getfield 7, 3) := by decide +kernel
theorem dX6_tunes_193 : decode cX6_tunes 193 = .ok (.bipush 17, 2) := by decide +kernel
theorem dX6_tunes_195 : decode cX6_tunes 195 = .ok (.iload 6, 2) := by decide +kernel
theorem dX6_tunes_197 : decode cX6_tunes 197 = .ok (.iadd, 1) := by decide +kernel
theorem dX6_tunes_198 : decode cX6_tunes 198 = .ok (.iaload, 1) := by decide +kernel
theorem dX6_tunes_199 : decode cX6_tunes 199 = .ok (.goto 5, 3) := by decide +kernel
theorem dX6_tunes_202 : decode cX6_tunes 202 = .ok (.iload 4, 2) := by decide +kernel
theorem dX6_tunes_204 : decode cX6_tunes 204 = .ok (.istore 4, 2) := by decide +kernel
theorem dX6_tunes_206 : decode cX6_tunes 206 = .ok (.iload 5, 2) := by decide +kernel
theorem dX6_tunes_208 : decode cX6_tunes 208 = .ok (.ifCond .ne 10, 3) := by decide +kernel
theorem dX6_tunes_211 : decode cX6_tunes 211 = .ok (.iload 7, 2) := by decide +kernel
theorem dX6_tunes_213 : decode cX6_tunes 213 = .ok (.bipush 9, 2) := by decide +kernel
theorem dX6_tunes_215 : decode cX6_tunes 215 = .ok (.if_icmp .ne 7, 3) := by decide +kernel
theorem dX6_tunes_218 : decode cX6_tunes 218 = .ok (.iconst 1, 1) := by decide +kernel
theorem dX6_tunes_219 : decode cX6_tunes 219 = .ok (.goto 4, 3) := by decide +kernel
theorem dX6_tunes_222 : decode cX6_tunes 222 = .ok (.iconst 0, 1) := by decide +kernel
theorem dX6_tunes_223 : decode cX6_tunes 223 = .ok (.istore 5, 2) := by decide +kernel
theorem dX6_tunes_225 : decode cX6_tunes 225 = .ok (.iinc 6 1, 3) := by decide +kernel
theorem dX6_tunes_228 : decode cX6_tunes 228 = .ok (.goto (-193), 3) := by decide +kernel
theorem dX6_tunes_231 : decode cX6_tunes 231 = .ok (.iconst 0, 1) := by decide +kernel
theorem dX6_tunes_232 : decode cX6_tunes 232 = .ok (.istore 6, 2) := by decide +kernel
theorem dX6_tunes_234 : decode cX6_tunes 234 = .ok (.iload 6, 2) := by decide +kernel
theorem dX6_tunes_236 : decode cX6_tunes 236 = .ok (.aload_n 0, 1) := by decide +kernel
theorem dX6_tunes_237 : decode cX6_tunes 237 = .ok (.getfield 7, 3) := by decide +kernel
theorem dX6_tunes_240 : decode cX6_tunes 240 = .ok (.iconst 0, 1) := by decide +kernel
theorem dX6_tunes_241 : decode cX6_tunes 241 = .ok (.iaload, 1) := by decide +kernel
theorem dX6_tunes_242 : decode cX6_tunes 242 = .ok (.if_icmp .ge 27, 3) := by decide +kernel
theorem dX6_tunes_245 : decode cX6_tunes 245 = .ok (.aload_n 0, 1) := by decide +kernel
theorem dX6_tunes_246 : decode cX6_tunes 246 = .ok (.getfield 13, 3) := by decide +kernel
theorem dX6_tunes_249 : decode cX6_tunes 249 = .ok (.sipush 198, 3) := by decide +kernel
theorem dX6_tunes_252 : decode cX6_tunes 252 = .ok (.iload 6, 2) := by decide +kernel
theorem dX6_tunes_254 : decode cX6_tunes 254 = .ok (.iadd, 1) := by decide +kernel
theorem dX6_tunes_255 : decode cX6_tunes 255 = .ok (.aload_n 0, 1) := by decide +kernel
theorem dX6_tunes_256 : decode cX6_tunes 256 = .ok (.getfield 22, 3) := by decide +kernel
theorem dX6_tunes_259 : decode cX6_tunes 259 = .ok (.iload 6, 2) := by decide +kernel
theorem dX6_tunes_261 : decode cX6_tunes 261 = .ok (.iaload, 1) := by decide +kernel
theorem dX6_tunes_262 : decode cX6_tunes 262 = .ok (.iastore, 1) := by decide +kernel
theorem dX6_tunes_263 : decode cX6_tunes 263 = .ok (.iinc 6 1, 3) := by decide +kernel
theorem dX6_tunes_266 : decode cX6_tunes 266 = .ok (.goto (-32), 3) := by decide +kernel
theorem dX6_tunes_269 : decode cX6_tunes 269 = .ok (.aload_n 0, 1) := by decide +kernel
theorem dX6_tunes_270 : decode cX6_tunes 270 = .ok (.getfield 13, 3) := by decide +kernel
theorem dX6_tunes_273 : decode cX6_tunes 273 = .ok (.sipush 206, 3) := by decide +kernel
theorem dX6_tunes_276 : decode cX6_tunes 276 = .ok (.aload_n 0, 1) := by decide +kernel
theorem dX6_tunes_277 : decode cX6_tunes 277 = .ok (.getfield 13, 3) := by decide +kernel
theorem dX6_tunes_280 : decode cX6_tunes 280 = .ok (.sipush 206, 3) := by decide +kernel
theorem dX6_tunes_283 : decode cX6_tunes 283 = .ok (.iaload, 1) := by decide +kernel
theorem dX6_tunes_284 : decode cX6_tunes 284 = .ok (.iload 5, 2) := by decide +kernel
theorem dX6_tunes_286 : decode cX6_tunes 286 = .ok (.ifCond .eq 13, 3) := by decide +kernel
theorem dX6_tunes_289 : decode cX6_tunes 289 = .ok (.aload_n 0, 1) := by decide +kernel
theorem dX6_tunes_290 : decode cX6_tunes 290 = .ok (.getfield 7, 3) := by decide +kernel
theorem dX6_tunes_293 : decode cX6_tunes 293 = .ok (.bipush 50, 2) := by decide +kernel
theorem dX6_tunes_295 : decode cX6_tunes 295 = .ok (.iaload, 1) := by decide +kernel
theorem dX6_tunes_296 : decode cX6_tunes 296 = .ok (.goto 4, 3) := by decide +kernel
theorem dX6_tunes_299 : decode cX6_tunes 299 = .ok (.iconst 0, 1) := by decide +kernel
theorem dX6_tunes_300 : decode cX6_tunes 300 = .ok (.iadd, 1) := by decide +kernel
theorem dX6_tunes_301 : decode cX6_tunes 301 = .ok (.invokestatic 114, 3) := by decide +kernel
theorem dX6_tunes_304 : decode cX6_tunes 304 = .ok (.iastore, 1) := by decide +kernel
theorem dX6_tunes_305 : decode cX6_tunes 305 = .ok (.aload_n 0, 1) := by decide +kernel
theorem dX6_tunes_306 : decode cX6_tunes 306 = .ok (.iload 4, 2) := by decide +kernel
theorem dX6_tunes_308 : decode cX6_tunes 308 = .ok (.invokevirtual 134, 3) := by decide +kernel
theorem dX6_tunes_311 : decode cX6_tunes 311 = .ok (.iload 4, 2) := by decide +kernel
theorem dX6_tunes_313 : decode cX6_tunes 313 = .ok (.ireturn, 1) := by decide +kernel
theorem dX6_groupSet_0 : decode cX6_groupSet 0 = .ok (.iconst 0, 1) := by decide +kernel
theorem dX6_groupSet_1 : decode cX6_groupSet 1 = .ok (.istore_n 2, 1) := by decide +kernel
theorem dX6_groupSet_2 : decode cX6_groupSet 2 = .ok (.iconst 0, 1) := by decide +kernel
theorem dX6_groupSet_3 : decode cX6_groupSet 3 = .ok (.istore_n 3, 1) := by decide +kernel
theorem dX6_groupSet_4 : decode cX6_groupSet 4 = .ok (.iload_n 3, 1) := by decide +kernel
theorem dX6_groupSet_5 : decode cX6_groupSet 5 = .ok (.aload_n 0, 1) := by decide +kernel
theorem dX6_groupSet_6 : decode cX6_groupSet 6 = .ok (.getfield 7, 3) := by decide +kernel
theorem dX6_groupSet_9 : decode cX6_groupSet 9 = .ok (.iconst 0, 1) := by decide +kernel
theorem dX6_groupSet_10 : decode cX6_groupSet 10 = .ok (.iaload, 1) := by decide +kernel
theorem dX6_groupSet_11 : decode cX6_groupSet 11 = .ok (.if_icmp .ge 32, 3) := by decide +kernel
theorem dX6_groupSet_14 : decode cX6_groupSet 14 = .ok (.iload_n 2, 1) := by decide +kernel
theorem dX6_groupSet_15 : decode cX6_groupSet 15 = .ok (.aload_n 0, 1) := by decide +kernel
theorem dX6_groupSet_16 : decode cX6_groupSet 16 = .ok (.getfield 7, 3) := by decide +kernel
theorem dX6_groupSet_19 : decode cX6_groupSet 19 = .ok (.bipush 33, 2) := by decide +kernel
theorem dX6_groupSet_21 : decode cX6_groupSet 21 = .ok (.iload_n 3, 1) := by decide +kernel
theorem dX6_groupSet_22 : decode cX6_groupSet 22 = .ok (.iadd, 1) := by decide +kernel
theorem dX6_groupSet_23 : decode cX6_groupSet 23 = .ok (.iaload, 1) := by decide +kernel
theorem dX6_groupSet_24 : decode cX6_groupSet 24 = .ok (.iload_n 1, 1) := by decide +kernel
theorem dX6_groupSet_25 : decode cX6_groupSet 25 = .ok (.if_icmp .ne 9, 3) := by decide +kernel
theorem dX6_groupSet_28 : decode cX6_groupSet 28 = .ok (.iconst 1, 1) := by decide +kernel
theorem dX6_groupSet_29 : decode cX6_groupSet 29 = .ok (.iload_n 3, 1) := by decide +kernel
theorem dX6_groupSet_30 : decode cX6_groupSet 30 = .ok (.ishl, 1) := by decide +kernel
theorem dX6_groupSet_31 : decode cX6_groupSet 31 = .ok (.goto 4, 3) := by decide +kernel
theorem dX6_groupSet_34 : decode cX6_groupSet 34 = .ok (.iconst 0, 1) := by decide +kernel
theorem dX6_groupSet_35 : decode cX6_groupSet 35 = .ok (.ior, 1) := by decide +kernel
theorem dX6_groupSet_36 : decode cX6_groupSet 36 = .ok (.istore_n 2, 1) := by decide +kernel
theorem dX6_groupSet_37 : decode cX6_groupSet 37 = .ok (.iinc 3 1, 3) := by decide +kernel
theorem dX6_groupSet_40 : decode cX6_groupSet 40 = .ok (.goto (-36), 3) := by decide +kernel
theorem dX6_groupSet_43 : decode cX6_groupSet 43 = .ok (.iload_n 2, 1) := by decide +kernel
theorem dX6_groupSet_44 : decode cX6_groupSet 44 = .ok (.ireturn, 1) := by decide +kernel
set_option maxRecDepth 20000 in
theorem ggX6_rounds_X6_groupSet : GoodIn wsX6_rounds wsX6_groupSet := goodIn_r _ [5, 6, 45, 46, 47, 48, 49, 50, 51, 52, 53, 54, 55, 56, 57, 58, 59] (by decide +kernel) (by decide +kernel)
set_option maxRecDepth 20000 in
theorem gX6_rounds_X6_groupSet : GoodIn wsX6_rounds (wsV RX6 137 RX6 yX6_groupSet wsX6_groupSet) := goodIn_app (goodIn_of _ (by decide +kernel)) ggX6_rounds_X6_groupSet
set_option maxRecDepth 20000 in
theorem ggX6_rounds_X6_tunes : GoodIn wsX6_rounds wsX6_tunes := goodIn_r _ [10, 6, 11, 12, 13, 14, 15, 16, 17, 4, 18, 19, 20, 21, 22, 23, 24, 25, 26, 27, 28, 29, 30, 31, 32, 33, 34, 35, 36, 37, 38, 39, 40, 41, 42, 43, 44, 45, 46, 47, 48, 49, 50, 51, 52, 53, 54, 55, 56, 57, 58, 59] (by decide +kernel) (by decide +kernel)
set_option maxRecDepth 20000 in
theorem gX6_rounds_X6_tunes : GoodIn wsX6_rounds (wsV RX6 140 RX6 yX6_tunes wsX6_tunes) := goodIn_app (goodIn_of _ (by decide +kernel)) ggX6_rounds_X6_tunes
theorem dX6_rounds_0 : decode cX6_rounds 0 = .ok (.iconst 0, 1) := by decide +kernel
theorem dX6_rounds_1 : decode cX6_rounds 1 = .ok (.istore_n 1, 1) := by decide +kernel
theorem dX6_rounds_2 : decode cX6_rounds 2 = .ok (.iconst 0, 1) := by decide +kernel
theorem dX6_rounds_3 : decode cX6_rounds 3 = .ok (.istore_n 2, 1) := by decide +kernel
theorem dX6_rounds_4 : decode cX6_rounds 4 = .ok (.iload_n 2, 1) := by decide +kernel
theorem dX6_rounds_5 : decode cX6_rounds 5 = .ok (.iconst 5, 1) := by decide +kernel
theorem dX6_rounds_6 : decode cX6_rounds 6 = .ok (.if_icmp .ge 21, 3) := by decide +kernel
theorem dX6_rounds_9 : decode cX6_rounds 9 = .ok (.iload_n 1, 1) := by decide +kernel
theorem dX6_rounds_10 : decode cX6_rounds 10 = .ok (.aload_n 0, 1) := by decide +kernel
theorem dX6_rounds_11 : decode cX6_rounds 11 = .ok (.aload_n 0, 1) := by decide +kernel
theorem dX6_rounds_12 : decode cX6_rounds 12 = .ok (.iload_n 2, 1) := by decide +kernel
theorem dX6_rounds_13 : decode cX6_rounds 13 = .ok (.invokevirtual 137, 3) := by decide +kernel
theorem dX6_rounds_16 : decode cX6_rounds 16 = .ok (.invokevirtual 140, 3) := by decide +kernel
theorem dX6_rounds_19 : decode cX6_rounds 19 = .ok (.iadd, 1) := by decide +kernel
theorem dX6_rounds_20 : decode cX6_rounds 20 = .ok (.istore_n 1, 1) := by decide +kernel
theorem dX6_rounds_21 : decode cX6_rounds 21 = .ok (.iinc 2 1, 3) := by decide +kernel
theorem dX6_rounds_24 : decode cX6_rounds 24 = .ok (.goto (-20), 3) := by decide +kernel
theorem dX6_rounds_27 : decode cX6_rounds 27 = .ok (.iload_n 1, 1) := by decide +kernel
theorem dX6_rounds_28 : decode cX6_rounds 28 = .ok (.ireturn, 1) := by decide +kernel
theorem dX6_spreadOf_0 : decode cX6_spreadOf 0 = .ok (.aload_n 0, 1) := by decide +kernel
theorem dX6_spreadOf_1 : decode cX6_spreadOf 1 = .ok (.getfield 13, 3) := by decide +kernel
theorem dX6_spreadOf_4 : decode cX6_spreadOf 4 = .ok (.iload_n 1, 1) := by decide +kernel
theorem dX6_spreadOf_5 : decode cX6_spreadOf 5 = .ok (.iconst 0, 1) := by decide +kernel
theorem dX6_spreadOf_6 : decode cX6_spreadOf 6 = .ok (.iadd, 1) := by decide +kernel
theorem dX6_spreadOf_7 : decode cX6_spreadOf 7 = .ok (.iaload, 1) := by decide +kernel
theorem dX6_spreadOf_8 : decode cX6_spreadOf 8 = .ok (.istore_n 2, 1) := by decide +kernel
theorem dX6_spreadOf_9 : decode cX6_spreadOf 9 = .ok (.aload_n 0, 1) := by decide +kernel
theorem dX6_spreadOf_10 : decode cX6_spreadOf 10 = .ok (.getfield 13, 3) := by decide +kernel
theorem dX6_spreadOf_13 : decode cX6_spreadOf 13 = .ok (.iload_n 1, 1) := by decide +kernel
theorem dX6_spreadOf_14 : decode cX6_spreadOf 14 = .ok (.iconst 0, 1) := by decide +kernel
theorem dX6_spreadOf_15 : decode cX6_spreadOf 15 = .ok (.iadd, 1) := by decide +kernel
theorem dX6_spreadOf_16 : decode cX6_spreadOf 16 = .ok (.iaload, 1) := by decide +kernel
theorem dX6_spreadOf_17 : decode cX6_spreadOf 17 = .ok (.istore_n 3, 1) := by decide +kernel
theorem dX6_spreadOf_18 : decode cX6_spreadOf 18 = .ok (.iconst 1, 1) := by decide +kernel
theorem dX6_spreadOf_19 : decode cX6_spreadOf 19 = .ok (.istore 4, 2) := by decide +kernel
theorem dX6_spreadOf_21 : decode cX6_spreadOf 21 = .ok (.iload 4, 2) := by decide +kernel
theorem dX6_spreadOf_23 : decode cX6_spreadOf 23 = .ok (.aload_n 0, 1) := by decide +kernel
theorem dX6_spreadOf_24 : decode cX6_spreadOf 24 = .ok (.getfield 7, 3) := by decide +kernel
theorem dX6_spreadOf_27 : decode cX6_spreadOf 27 = .ok (.iconst 0, 1) := by decide +kernel
theorem dX6_spreadOf_28 : decode cX6_spreadOf 28 = .ok (.iaload, 1) := by decide +kernel
theorem dX6_spreadOf_29 : decode cX6_spreadOf 29 = .ok (.if_icmp .ge 48, 3) := by decide +kernel
theorem dX6_spreadOf_32 : decode cX6_spreadOf 32 = .ok (.aload_n 0, 1) := by decide +kernel
theorem dX6_spreadOf_33 : decode cX6_spreadOf 33 = .ok (.getfield 13, 3) := by decide +kernel
theorem dX6_spreadOf_36 : decode cX6_spreadOf 36 = .ok (.iload_n 1, 1) := by decide +kernel
theorem dX6_spreadOf_37 : decode cX6_spreadOf 37 = .ok (.iconst 0, 1) := by decide +kernel
theorem dX6_spreadOf_38 : decode cX6_spreadOf 38 = .ok (.iadd, 1) := by decide +kernel
theorem dX6_spreadOf_39 : decode cX6_spreadOf 39 = .ok (.iload 4, 2) := by decide +kernel
theorem dX6_spreadOf_41 : decode cX6_spreadOf 41 = .ok (.iadd, 1) := by decide +kernel
theorem dX6_spreadOf_42 : decode cX6_spreadOf 42 = .ok (.iaload, 1) := by decide +kernel
theorem dX6_spreadOf_43 : decode cX6_spreadOf 43 = .ok (.istore 5, 2) := by decide +kernel
theorem dX6_spreadOf_45 : decode cX6_spreadOf 45 = .ok (.iload 5, 2) := by decide +kernel
theorem dX6_spreadOf_47 : decode cX6_spreadOf 47 = .ok (.iload_n 2, 1) := by decide +kernel
theorem dX6_spreadOf_48 : decode cX6_spreadOf 48 = .ok (.if_icmp .ge 8, 3) := by decide +kernel
theorem dX6_spreadOf_51 : decode cX6_spreadOf 51 = .ok (.iload 5, 2) := by decide +kernel
theorem dX6_spreadOf_53 : decode cX6_spreadOf 53 = .ok (.goto 4, 3) := by decide +kernel
theorem dX6_spreadOf_56 : decode cX6_spreadOf 56 = .ok (.iload_n 2, 1) := by decide +kernel
theorem dX6_spreadOf_57 : decode cX6_spreadOf 57 = .ok (.istore_n 2, 1) := by decide +kernel
theorem dX6_spreadOf_58 : decode cX6_spreadOf 58 = .ok (.iload 5, 2) := by decide +kernel
theorem dX6_spreadOf_60 : decode cX6_spreadOf 60 = .ok (.iload_n 3, 1) := by decide +kernel
theorem dX6_spreadOf_61 : decode cX6_spreadOf 61 = .ok (.if_icmp .le 8, 3) := by decide +kernel
theorem dX6_spreadOf_64 : decode cX6_spreadOf 64 = .ok (.iload 5, 2) := by decide +kernel
theorem dX6_spreadOf_66 : decode cX6_spreadOf 66 = .ok (.goto 4, 3) := by decide +kernel
theorem dX6_spreadOf_69 : decode cX6_spreadOf 69 = .ok (.iload_n 3, 1) := by decide +kernel
theorem dX6_spreadOf_70 : decode cX6_spreadOf 70 = .ok (.istore_n 3, 1) := by decide +kernel
theorem dX6_spreadOf_71 : decode cX6_spreadOf 71 = .ok (.iinc 4 1, 3) := by decide +kernel
theorem dX6_spreadOf_74 : decode cX6_spreadOf 74 = .ok (.goto (-53), 3) := by decide +kernel
theorem dX6_spreadOf_77 : decode cX6_spreadOf 77 = .ok (.iload_n 3, 1) := by decide +kernel
theorem dX6_spreadOf_78 : decode cX6_spreadOf 78 = .ok (.iload_n 2, 1) := by decide +kernel
theorem dX6_spreadOf_79 : decode cX6_spreadOf 79 = .ok (.isub, 1) := by decide +kernel
theorem dX6_spreadOf_80 : decode cX6_spreadOf 80 = .ok (.ireturn, 1) := by decide +kernel
set_option maxRecDepth 20000 in
theorem ggX6_heardOf_X6_plain : GoodIn wsX6_heardOf wsX6_plain := goodIn_r _ [6] (by decide +kernel) (by decide +kernel)
set_option maxRecDepth 20000 in
theorem gX6_heardOf_X6_plain : GoodIn wsX6_heardOf (va_wsS RX6 143 yX6_plain wsX6_plain) := goodIn_app (goodIn_of _ (by decide +kernel)) ggX6_heardOf_X6_plain
theorem dX6_heardOf_0 : decode cX6_heardOf 0 = .ok (.iconst 0, 1) := by decide +kernel
theorem dX6_heardOf_1 : decode cX6_heardOf 1 = .ok (.istore_n 2, 1) := by decide +kernel
theorem dX6_heardOf_2 : decode cX6_heardOf 2 = .ok (.iconst 0, 1) := by decide +kernel
theorem dX6_heardOf_3 : decode cX6_heardOf 3 = .ok (.istore_n 3, 1) := by decide +kernel
theorem dX6_heardOf_4 : decode cX6_heardOf 4 = .ok (.iload_n 3, 1) := by decide +kernel
theorem dX6_heardOf_5 : decode cX6_heardOf 5 = .ok (.aload_n 0, 1) := by decide +kernel
theorem dX6_heardOf_6 : decode cX6_heardOf 6 = .ok (.getfield 7, 3) := by decide +kernel
theorem dX6_heardOf_9 : decode cX6_heardOf 9 = .ok (.iconst 0, 1) := by decide +kernel
theorem dX6_heardOf_10 : decode cX6_heardOf 10 = .ok (.iaload, 1) := by decide +kernel
theorem dX6_heardOf_11 : decode cX6_heardOf 11 = .ok (.if_icmp .ge 67, 3) := by decide +kernel
theorem dX6_heardOf_14 : decode cX6_heardOf 14 = .ok (.iconst 0, 1) := by decide +kernel
theorem dX6_heardOf_15 : decode cX6_heardOf 15 = .ok (.istore 4, 2) := by decide +kernel
theorem dX6_heardOf_17 : decode cX6_heardOf 17 = .ok (.iload 4, 2) := by decide +kernel
theorem dX6_heardOf_19 : decode cX6_heardOf 19 = .ok (.iload_n 3, 1) := by decide +kernel
theorem dX6_heardOf_20 : decode cX6_heardOf 20 = .ok (.if_icmp .ge 52, 3) := by decide +kernel
theorem dX6_heardOf_23 : decode cX6_heardOf 23 = .ok (.iload_n 2, 1) := by decide +kernel
theorem dX6_heardOf_24 : decode cX6_heardOf 24 = .ok (.aload_n 0, 1) := by decide +kernel
theorem dX6_heardOf_25 : decode cX6_heardOf 25 = .ok (.getfield 13, 3) := by decide +kernel
theorem dX6_heardOf_28 : decode cX6_heardOf 28 = .ok (.iload_n 1, 1) := by decide +kernel
theorem dX6_heardOf_29 : decode cX6_heardOf 29 = .ok (.iconst 0, 1) := by decide +kernel
theorem dX6_heardOf_30 : decode cX6_heardOf 30 = .ok (.iadd, 1) := by decide +kernel
theorem dX6_heardOf_31 : decode cX6_heardOf 31 = .ok (.iload_n 3, 1) := by decide +kernel
theorem dX6_heardOf_32 : decode cX6_heardOf 32 = .ok (.iadd, 1) := by decide +kernel
theorem dX6_heardOf_33 : decode cX6_heardOf 33 = .ok (.iaload, 1) := by decide +kernel
theorem dX6_heardOf_34 : decode cX6_heardOf 34 = .ok (.aload_n 0, 1) := by decide +kernel
theorem dX6_heardOf_35 : decode cX6_heardOf 35 = .ok (.getfield 13, 3) := by decide +kernel
theorem dX6_heardOf_38 : decode cX6_heardOf 38 = .ok (.iload_n 1, 1) := by decide +kernel
theorem dX6_heardOf_39 : decode cX6_heardOf 39 = .ok (.iconst 0, 1) := by decide +kernel
theorem dX6_heardOf_40 : decode cX6_heardOf 40 = .ok (.iadd, 1) := by decide +kernel
theorem dX6_heardOf_41 : decode cX6_heardOf 41 = .ok (.iload 4, 2) := by decide +kernel
theorem dX6_heardOf_43 : decode cX6_heardOf 43 = .ok (.iadd, 1) := by decide +kernel
theorem dX6_heardOf_44 : decode cX6_heardOf 44 = .ok (.iaload, 1) := by decide +kernel
theorem dX6_heardOf_45 : decode cX6_heardOf 45 = .ok (.isub, 1) := by decide +kernel
theorem dX6_heardOf_46 : decode cX6_heardOf 46 = .ok (.invokestatic 143, 3) := by decide +kernel
theorem dX6_heardOf_49 : decode cX6_heardOf 49 = .ok (.aload_n 0, 1) := by decide +kernel
theorem dX6_heardOf_50 : decode cX6_heardOf 50 = .ok (.getfield 7, 3) := by decide +kernel
theorem dX6_heardOf_53 : decode cX6_heardOf 53 = .ok (.bipush 52, 2) := by decide +kernel
theorem dX6_heardOf_55 : decode cX6_heardOf 55 = .ok (.iaload, 1) := by decide +kernel
theorem dX6_heardOf_56 : decode cX6_heardOf 56 = .ok (.if_icmp .le 7, 3) := by decide +kernel
theorem dX6_heardOf_59 : decode cX6_heardOf 59 = .ok (.iconst 1, 1) := by decide +kernel
theorem dX6_heardOf_60 : decode cX6_heardOf 60 = .ok (.goto 4, 3) := by decide +kernel
theorem dX6_heardOf_63 : decode cX6_heardOf 63 = .ok (.iconst 0, 1) := by decide +kernel
theorem dX6_heardOf_64 : decode cX6_heardOf 64 = .ok (.iadd, 1) := by decide +kernel
theorem dX6_heardOf_65 : decode cX6_heardOf 65 = .ok (.istore_n 2, 1) := by decide +kernel
theorem dX6_heardOf_66 : decode cX6_heardOf 66 = .ok (.iinc 4 1, 3) := by decide +kernel
theorem dX6_heardOf_69 : decode cX6_heardOf 69 = .ok (.goto (-52), 3) := by decide +kernel
theorem dX6_heardOf_72 : decode cX6_heardOf 72 = .ok (.iinc 3 1, 3) := by decide +kernel
theorem dX6_heardOf_75 : decode cX6_heardOf 75 = .ok (.goto (-71), 3) := by decide +kernel
theorem dX6_heardOf_78 : decode cX6_heardOf 78 = .ok (.iload_n 2, 1) := by decide +kernel
theorem dX6_heardOf_79 : decode cX6_heardOf 79 = .ok (.ireturn, 1) := by decide +kernel
theorem dX6_minds_0 : decode cX6_minds 0 = .ok (.aload_n 0, 1) := by decide +kernel
theorem dX6_minds_1 : decode cX6_minds 1 = .ok (.getfield 44, 3) := by decide +kernel
theorem dX6_minds_4 : decode cX6_minds 4 = .ok (.bipush 8, 2) := by decide +kernel
theorem dX6_minds_6 : decode cX6_minds 6 = .ok (.if_icmp .ne 48, 3) := by decide +kernel
theorem dX6_minds_9 : decode cX6_minds 9 = .ok (.iconst 0, 1) := by decide +kernel
theorem dX6_minds_10 : decode cX6_minds 10 = .ok (.istore_n 1, 1) := by decide +kernel
theorem dX6_minds_11 : decode cX6_minds 11 = .ok (.iload_n 1, 1) := by decide +kernel
theorem dX6_minds_12 : decode cX6_minds 12 = .ok (.bipush 126, 2) := by decide +kernel
theorem dX6_minds_14 : decode cX6_minds 14 = .ok (.if_icmp .ge 30, 3) := by decide +kernel
theorem dX6_minds_17 : decode cX6_minds 17 = .ok (.aload_n 0, 1) := by decide +kernel
theorem dX6_minds_18 : decode cX6_minds 18 = .ok (.getfield 13, 3) := by decide +kernel
theorem dX6_minds_21 : decode cX6_minds 21 = .ok (.bipush 54, 2) := by decide +kernel
theorem dX6_minds_23 : decode cX6_minds 23 = .ok (.iload_n 1, 1) := by decide +kernel
theorem dX6_minds_24 : decode cX6_minds 24 = .ok (.iadd, 1) := by decide +kernel
theorem dX6_minds_25 : decode cX6_minds 25 = .ok (.aload_n 0, 1) := by decide +kernel
theorem dX6_minds_26 : decode cX6_minds 26 = .ok (.getfield 13, 3) := by decide +kernel
theorem dX6_minds_29 : decode cX6_minds 29 = .ok (.bipush 54, 2) := by decide +kernel
theorem dX6_minds_31 : decode cX6_minds 31 = .ok (.iload_n 1, 1) := by decide +kernel
theorem dX6_minds_32 : decode cX6_minds 32 = .ok (.iadd, 1) := by decide +kernel
theorem dX6_minds_33 : decode cX6_minds 33 = .ok (.bipush 18, 2) := by decide +kernel
theorem dX6_minds_35 : decode cX6_minds 35 = .ok (.iadd, 1) := by decide +kernel
theorem dX6_minds_36 : decode cX6_minds 36 = .ok (.iaload, 1) := by decide +kernel
theorem dX6_minds_37 : decode cX6_minds 37 = .ok (.iastore, 1) := by decide +kernel
theorem dX6_minds_38 : decode cX6_minds 38 = .ok (.iinc 1 1, 3) := by decide +kernel
theorem dX6_minds_41 : decode cX6_minds 41 = .ok (.goto (-30), 3) := by decide +kernel
theorem dX6_minds_44 : decode cX6_minds 44 = .ok (.aload_n 0, 1) := by decide +kernel
theorem dX6_minds_45 : decode cX6_minds 45 = .ok (.dup, 1) := by decide +kernel
theorem dX6_minds_46 : decode cX6_minds 46 = .ok (.getfield 44, 3) := by decide +kernel
theorem dX6_minds_49 : decode cX6_minds 49 = .ok (.iconst 1, 1) := by decide +kernel
theorem dX6_minds_50 : decode cX6_minds 50 = .ok (.isub, 1) := by decide +kernel
theorem dX6_minds_51 : decode cX6_minds 51 = .ok (.putfield 44, 3) := by decide +kernel
theorem dX6_minds_54 : decode cX6_minds 54 = .ok (.iconst 0, 1) := by decide +kernel
theorem dX6_minds_55 : decode cX6_minds 55 = .ok (.istore_n 1, 1) := by decide +kernel
theorem dX6_minds_56 : decode cX6_minds 56 = .ok (.iload_n 1, 1) := by decide +kernel
theorem dX6_minds_57 : decode cX6_minds 57 = .ok (.bipush 18, 2) := by decide +kernel
theorem dX6_minds_59 : decode cX6_minds 59 = .ok (.if_icmp .ge 32, 3) := by decide +kernel
theorem dX6_minds_62 : decode cX6_minds 62 = .ok (.aload_n 0, 1) := by decide +kernel
theorem dX6_minds_63 : decode cX6_minds 63 = .ok (.getfield 13, 3) := by decide +kernel
theorem dX6_minds_66 : decode cX6_minds 66 = .ok (.bipush 54, 2) := by decide +kernel
theorem dX6_minds_68 : decode cX6_minds 68 = .ok (.bipush 18, 2) := by decide +kernel
theorem dX6_minds_70 : decode cX6_minds 70 = .ok (.aload_n 0, 1) := by decide +kernel
theorem dX6_minds_71 : decode cX6_minds 71 = .ok (.getfield 44, 3) := by decide +kernel
theorem dX6_minds_74 : decode cX6_minds 74 = .ok (.imul, 1) := by decide +kernel
theorem dX6_minds_75 : decode cX6_minds 75 = .ok (.iadd, 1) := by decide +kernel
theorem dX6_minds_76 : decode cX6_minds 76 = .ok (.iload_n 1, 1) := by decide +kernel
theorem dX6_minds_77 : decode cX6_minds 77 = .ok (.iadd, 1) := by decide +kernel
theorem dX6_minds_78 : decode cX6_minds 78 = .ok (.aload_n 0, 1) := by decide +kernel
theorem dX6_minds_79 : decode cX6_minds 79 = .ok (.getfield 13, 3) := by decide +kernel
theorem dX6_minds_82 : decode cX6_minds 82 = .ok (.iload_n 1, 1) := by decide +kernel
theorem dX6_minds_83 : decode cX6_minds 83 = .ok (.iaload, 1) := by decide +kernel
theorem dX6_minds_84 : decode cX6_minds 84 = .ok (.iastore, 1) := by decide +kernel
theorem dX6_minds_85 : decode cX6_minds 85 = .ok (.iinc 1 1, 3) := by decide +kernel
theorem dX6_minds_88 : decode cX6_minds 88 = .ok (.goto (-32), 3) := by decide +kernel
theorem dX6_minds_91 : decode cX6_minds 91 = .ok (.aload_n 0, 1) := by decide +kernel
theorem dX6_minds_92 : decode cX6_minds 92 = .ok (.dup, 1) := by decide +kernel
theorem dX6_minds_93 : decode cX6_minds 93 = .ok (.getfield 44, 3) := by decide +kernel
theorem dX6_minds_96 : decode cX6_minds 96 = .ok (.iconst 1, 1) := by decide +kernel
theorem dX6_minds_97 : decode cX6_minds 97 = .ok (.iadd, 1) := by decide +kernel
theorem dX6_minds_98 : decode cX6_minds 98 = .ok (.putfield 44, 3) := by decide +kernel
theorem dX6_minds_101 : decode cX6_minds 101 = .ok (.return_, 1) := by decide +kernel
theorem dX6_stays_0 : decode cX6_stays 0 = .ok (.iconst 0, 1) := by decide +kernel
theorem dX6_stays_1 : decode cX6_stays 1 = .ok (.istore_n 1, 1) := by decide +kernel
theorem dX6_stays_2 : decode cX6_stays 2 = .ok (.iload_n 1, 1) := by decide +kernel
theorem dX6_stays_3 : decode cX6_stays 3 = .ok (.bipush 18, 2) := by decide +kernel
theorem dX6_stays_5 : decode cX6_stays 5 = .ok (.if_icmp .ge 25, 3) := by decide +kernel
theorem dX6_stays_8 : decode cX6_stays 8 = .ok (.aload_n 0, 1) := by decide +kernel
theorem dX6_stays_9 : decode cX6_stays 9 = .ok (.getfield 13, 3) := by decide +kernel
theorem dX6_stays_12 : decode cX6_stays 12 = .ok (.iload_n 1, 1) := by decide +kernel
theorem dX6_stays_13 : decode cX6_stays 13 = .ok (.aload_n 0, 1) := by decide +kernel
theorem dX6_stays_14 : decode cX6_stays 14 = .ok (.getfield 13, 3) := by decide +kernel
theorem dX6_stays_17 : decode cX6_stays 17 = .ok (.sipush 198, 3) := by decide +kernel
theorem dX6_stays_20 : decode cX6_stays 20 = .ok (.iload_n 1, 1) := by decide +kernel
theorem dX6_stays_21 : decode cX6_stays 21 = .ok (.iadd, 1) := by decide +kernel
theorem dX6_stays_22 : decode cX6_stays 22 = .ok (.iaload, 1) := by decide +kernel
theorem dX6_stays_23 : decode cX6_stays 23 = .ok (.iastore, 1) := by decide +kernel
theorem dX6_stays_24 : decode cX6_stays 24 = .ok (.iinc 1 1, 3) := by decide +kernel
theorem dX6_stays_27 : decode cX6_stays 27 = .ok (.goto (-25), 3) := by decide +kernel
theorem dX6_stays_30 : decode cX6_stays 30 = .ok (.return_, 1) := by decide +kernel
set_option maxRecDepth 20000 in
theorem ggX6_tune_X6_isSet : GoodIn wsX6_tune wsX6_isSet := goodIn_r _ [5, 6, 7, 8, 4, 9, 65, 66, 67, 68, 69, 70, 71, 72, 73, 74, 75, 76, 77, 78, 79] (by decide +kernel) (by decide +kernel)
set_option maxRecDepth 20000 in
theorem gX6_tune_X6_isSet : GoodIn wsX6_tune (wsV RX6 146 RX6 yX6_isSet wsX6_isSet) := goodIn_app (goodIn_of _ (by decide +kernel)) ggX6_tune_X6_isSet
set_option maxRecDepth 20000 in
theorem ggX6_tune_X6_minds : GoodIn wsX6_tune wsX6_minds := goodIn_r _ [13, 14, 15, 65, 66, 67, 68, 69, 70, 71, 72, 73, 74, 75, 76, 77, 78, 79] (by decide +kernel) (by decide +kernel)
set_option maxRecDepth 20000 in
theorem gX6_tune_X6_minds : GoodIn wsX6_tune (wsV RX6 149 RX6 yX6_minds wsX6_minds) := goodIn_app (goodIn_of _ (by decide +kernel)) ggX6_tune_X6_minds
set_option maxRecDepth 20000 in
theorem ggX6_tune_X6_lays : GoodIn wsX6_tune wsX6_lays := goodIn_r _ [19, 15, 65, 66, 67, 68, 69, 70, 71, 72, 73, 74, 75, 76, 77, 78, 79] (by decide +kernel) (by decide +kernel)
set_option maxRecDepth 20000 in
theorem gX6_tune_X6_lays : GoodIn wsX6_tune (wsV RX6 152 RX6 yX6_lays wsX6_lays) := goodIn_app (goodIn_of _ (by decide +kernel)) ggX6_tune_X6_lays
set_option maxRecDepth 20000 in
theorem ggX6_tune_X6_laysLeans : GoodIn wsX6_tune wsX6_laysLeans := goodIn_r _ [23, 24, 6, 25, 26, 65, 66, 67, 68, 69, 70, 71, 72, 73, 74, 75, 76, 77, 78, 79] (by decide +kernel) (by decide +kernel)
set_option maxRecDepth 20000 in
theorem gX6_tune_X6_laysLeans : GoodIn wsX6_tune (wsV RX6 155 RX6 yX6_laysLeans wsX6_laysLeans) := goodIn_app (goodIn_of _ (by decide +kernel)) ggX6_tune_X6_laysLeans
set_option maxRecDepth 20000 in
theorem ggX6_tune_X6_tunes : GoodIn wsX6_tune wsX6_tunes := goodIn_r _ [30, 6, 31, 15, 24, 25, 32, 33, 34, 4, 35, 36, 37, 38, 39, 40, 41, 42, 43, 44, 45, 46, 47, 26, 48, 49, 50, 51, 52, 53, 54, 55, 56, 57, 58, 59, 60, 65, 66, 67, 68, 69, 70, 71, 72, 73, 74, 75, 76, 77, 78, 79] (by decide +kernel) (by decide +kernel)
set_option maxRecDepth 20000 in
theorem gX6_tune_X6_tunes : GoodIn wsX6_tune (wsV RX6 140 RX6 yX6_tunes wsX6_tunes) := goodIn_app (goodIn_of _ (by decide +kernel)) ggX6_tune_X6_tunes
set_option maxRecDepth 20000 in
theorem ggX6_tune_X6_stays : GoodIn wsX6_tune wsX6_stays := goodIn_r _ [64, 15, 65, 66, 67, 68, 69, 70, 71, 72, 73, 74, 75, 76, 77, 78, 79] (by decide +kernel) (by decide +kernel)
set_option maxRecDepth 20000 in
theorem gX6_tune_X6_stays : GoodIn wsX6_tune (wsV RX6 158 RX6 yX6_stays wsX6_stays) := goodIn_app (goodIn_of _ (by decide +kernel)) ggX6_tune_X6_stays
theorem dX6_tune_0 : decode cX6_tune 0 = .ok (.aload_n 0, 1) := by decide +kernel
theorem dX6_tune_1 : decode cX6_tune 1 = .ok (.iload_n 1, 1) := by decide +kernel
theorem dX6_tune_2 : decode cX6_tune 2 = .ok (.invokevirtual 146, 3) := by decide +kernel
theorem dX6_tune_5 : decode cX6_tune 5 = .ok (.ifCond .eq 7, 3) := by decide +kernel
theorem dX6_tune_8 : decode cX6_tune 8 = .ok (.iload_n 1, 1) := by decide +kernel
theorem dX6_tune_9 : decode cX6_tune 9 = .ok (.ifCond .ne 5, 3) := by decide +kernel
theorem dX6_tune_12 : decode cX6_tune 12 = .ok (.iconst (-1), 1) := by decide +kernel
theorem dX6_tune_13 : decode cX6_tune 13 = .ok (.ireturn, 1) := by decide +kernel
theorem dX6_tune_14 : decode cX6_tune 14 = .ok (.aload_n 0, 1) := by decide +kernel
theorem dX6_tune_15 : decode cX6_tune 15 = .ok (.invokevirtual 149, 3) := by decide +kernel
theorem dX6_tune_18 : decode cX6_tune 18 = .ok (.aload_n 0, 1) := by decide +kernel
theorem dX6_tune_19 : decode cX6_tune 19 = .ok (.invokevirtual 152, 3) := by decide +kernel
theorem dX6_tune_22 : decode cX6_tune 22 = .ok (.aload_n 0, 1) := by decide +kernel
theorem dX6_tune_23 : decode cX6_tune 23 = .ok (.invokevirtual 155, 3) := by decide +kernel
theorem dX6_tune_26 : decode cX6_tune 26 = .ok (.aload_n 0, 1) := by decide +kernel
theorem dX6_tune_27 : decode cX6_tune 27 = .ok (.iload_n 1, 1) := by decide +kernel
theorem dX6_tune_28 : decode cX6_tune 28 = .ok (.invokevirtual 140, 3) := by decide +kernel
theorem dX6_tune_31 : decode cX6_tune 31 = .ok (.istore_n 2, 1) := by decide +kernel
theorem dX6_tune_32 : decode cX6_tune 32 = .ok (.aload_n 0, 1) := by decide +kernel
theorem dX6_tune_33 : decode cX6_tune 33 = .ok (.invokevirtual 158, 3) := by decide +kernel
theorem dX6_tune_36 : decode cX6_tune 36 = .ok (.iload_n 2, 1) := by decide +kernel
theorem dX6_tune_37 : decode cX6_tune 37 = .ok (.ireturn, 1) := by decide +kernel
set_option maxRecDepth 20000 in
theorem ggX6_minutes_X6_in : GoodIn wsX6_minutes wsX6_in := goodIn_r _ [7] (by decide +kernel) (by decide +kernel)
set_option maxRecDepth 20000 in
theorem gX6_minutes_X6_in : GoodIn wsX6_minutes (va_wsS RX6 58 yX6_in wsX6_in) := goodIn_app (goodIn_of _ (by decide +kernel)) ggX6_minutes_X6_in
set_option maxRecDepth 20000 in
theorem ggX6_minutes_X6_minds : GoodIn wsX6_minutes wsX6_minds := goodIn_r _ [11, 12, 2, 33, 34, 35, 36, 37, 38, 39, 40, 41, 42, 43, 44, 45, 46, 47] (by decide +kernel) (by decide +kernel)
set_option maxRecDepth 20000 in
theorem gX6_minutes_X6_minds : GoodIn wsX6_minutes (wsV RX6 149 RX6 yX6_minds wsX6_minds) := goodIn_app (goodIn_of _ (by decide +kernel)) ggX6_minutes_X6_minds
set_option maxRecDepth 20000 in
theorem ggX6_minutes_X6_lays : GoodIn wsX6_minutes wsX6_lays := goodIn_r _ [16, 2, 33, 34, 35, 36, 37, 38, 39, 40, 41, 42, 43, 44, 45, 46, 47] (by decide +kernel) (by decide +kernel)
set_option maxRecDepth 20000 in
theorem gX6_minutes_X6_lays : GoodIn wsX6_minutes (wsV RX6 152 RX6 yX6_lays wsX6_lays) := goodIn_app (goodIn_of _ (by decide +kernel)) ggX6_minutes_X6_lays
set_option maxRecDepth 20000 in
theorem ggX6_minutes_X6_passes : GoodIn wsX6_minutes wsX6_passes := goodIn_r _ [20, 2, 21, 22, 23, 24, 6, 25, 26, 27, 28, 33, 34, 35, 36, 37, 38, 39, 40, 41, 42, 43, 44, 45, 46, 47] (by decide +kernel) (by decide +kernel)
set_option maxRecDepth 20000 in
theorem gX6_minutes_X6_passes : GoodIn wsX6_minutes (wsV RX6 134 RX6 yX6_passes wsX6_passes) := goodIn_app (goodIn_of _ (by decide +kernel)) ggX6_minutes_X6_passes
set_option maxRecDepth 20000 in
theorem ggX6_minutes_X6_stays : GoodIn wsX6_minutes wsX6_stays := goodIn_r _ [32, 2, 33, 34, 35, 36, 37, 38, 39, 40, 41, 42, 43, 44, 45, 46, 47] (by decide +kernel) (by decide +kernel)
set_option maxRecDepth 20000 in
theorem gX6_minutes_X6_stays : GoodIn wsX6_minutes (wsV RX6 158 RX6 yX6_stays wsX6_stays) := goodIn_app (goodIn_of _ (by decide +kernel)) ggX6_minutes_X6_stays
theorem dX6_minutes_0 : decode cX6_minutes 0 = .ok (.iload_n 1, 1) := by decide +kernel
theorem dX6_minutes_1 : decode cX6_minutes 1 = .ok (.i2l, 1) := by decide +kernel
theorem dX6_minutes_2 : decode cX6_minutes 2 = .ok (.lconst 1, 1) := by decide +kernel
theorem dX6_minutes_3 : decode cX6_minutes 3 = .ok (.ldc2_w 80, 3) := by decide +kernel
theorem dX6_minutes_6 : decode cX6_minutes 6 = .ok (.invokestatic 58, 3) := by decide +kernel
theorem dX6_minutes_9 : decode cX6_minutes 9 = .ok (.ifCond .ne 5, 3) := by decide +kernel
theorem dX6_minutes_12 : decode cX6_minutes 12 = .ok (.iconst (-1), 1) := by decide +kernel
theorem dX6_minutes_13 : decode cX6_minutes 13 = .ok (.ireturn, 1) := by decide +kernel
theorem dX6_minutes_14 : decode cX6_minutes 14 = .ok (.aload_n 0, 1) := by decide +kernel
theorem dX6_minutes_15 : decode cX6_minutes 15 = .ok (.getfield 13, 3) := by decide +kernel
theorem dX6_minutes_18 : decode cX6_minutes 18 = .ok (.bipush 9, 2) := by decide +kernel
theorem dX6_minutes_20 : decode cX6_minutes 20 = .ok (.iaload, 1) := by decide +kernel
theorem dX6_minutes_21 : decode cX6_minutes 21 = .ok (.bipush 60, 2) := by decide +kernel
theorem dX6_minutes_23 : decode cX6_minutes 23 = .ok (.iload_n 1, 1) := by decide +kernel
theorem dX6_minutes_24 : decode cX6_minutes 24 = .ok (.imul, 1) := by decide +kernel
theorem dX6_minutes_25 : decode cX6_minutes 25 = .ok (.iadd, 1) := by decide +kernel
theorem dX6_minutes_26 : decode cX6_minutes 26 = .ok (.ldc 161, 2) := by decide +kernel
theorem dX6_minutes_28 : decode cX6_minutes 28 = .ok (.if_icmp .le 6, 3) := by decide +kernel
theorem dX6_minutes_31 : decode cX6_minutes 31 = .ok (.bipush (-2), 2) := by decide +kernel
theorem dX6_minutes_33 : decode cX6_minutes 33 = .ok (.ireturn, 1) := by decide +kernel
theorem dX6_minutes_34 : decode cX6_minutes 34 = .ok (.aload_n 0, 1) := by decide +kernel
theorem dX6_minutes_35 : decode cX6_minutes 35 = .ok (.invokevirtual 149, 3) := by decide +kernel
theorem dX6_minutes_38 : decode cX6_minutes 38 = .ok (.aload_n 0, 1) := by decide +kernel
theorem dX6_minutes_39 : decode cX6_minutes 39 = .ok (.invokevirtual 152, 3) := by decide +kernel
theorem dX6_minutes_42 : decode cX6_minutes 42 = .ok (.aload_n 0, 1) := by decide +kernel
theorem dX6_minutes_43 : decode cX6_minutes 43 = .ok (.bipush 60, 2) := by decide +kernel
theorem dX6_minutes_45 : decode cX6_minutes 45 = .ok (.iload_n 1, 1) := by decide +kernel
theorem dX6_minutes_46 : decode cX6_minutes 46 = .ok (.imul, 1) := by decide +kernel
theorem dX6_minutes_47 : decode cX6_minutes 47 = .ok (.invokevirtual 134, 3) := by decide +kernel
theorem dX6_minutes_50 : decode cX6_minutes 50 = .ok (.aload_n 0, 1) := by decide +kernel
theorem dX6_minutes_51 : decode cX6_minutes 51 = .ok (.invokevirtual 158, 3) := by decide +kernel
theorem dX6_minutes_54 : decode cX6_minutes 54 = .ok (.aload_n 0, 1) := by decide +kernel
theorem dX6_minutes_55 : decode cX6_minutes 55 = .ok (.getfield 13, 3) := by decide +kernel
theorem dX6_minutes_58 : decode cX6_minutes 58 = .ok (.bipush 9, 2) := by decide +kernel
theorem dX6_minutes_60 : decode cX6_minutes 60 = .ok (.iaload, 1) := by decide +kernel
theorem dX6_minutes_61 : decode cX6_minutes 61 = .ok (.ireturn, 1) := by decide +kernel
set_option maxRecDepth 20000 in
theorem ggX6_isWhom_X6_isDesk : GoodIn wsX6_isWhom wsX6_isDesk := goodIn_r _ [5, 6, 7, 8, 4, 9, 10, 11, 12, 13, 14, 15, 16, 17, 18, 19, 20, 21, 22, 23, 24] (by decide +kernel) (by decide +kernel)
set_option maxRecDepth 20000 in
theorem gX6_isWhom_X6_isDesk : GoodIn wsX6_isWhom (wsV RX6 95 RX6 yX6_isDesk wsX6_isDesk) := goodIn_app (goodIn_of _ (by decide +kernel)) ggX6_isWhom_X6_isDesk
theorem dX6_isWhom_0 : decode cX6_isWhom 0 = .ok (.iload_n 2, 1) := by decide +kernel
theorem dX6_isWhom_1 : decode cX6_isWhom 1 = .ok (.iload_n 1, 1) := by decide +kernel
theorem dX6_isWhom_2 : decode cX6_isWhom 2 = .ok (.if_icmp .eq 27, 3) := by decide +kernel
theorem dX6_isWhom_5 : decode cX6_isWhom 5 = .ok (.aload_n 0, 1) := by decide +kernel
theorem dX6_isWhom_6 : decode cX6_isWhom 6 = .ok (.iload_n 2, 1) := by decide +kernel
theorem dX6_isWhom_7 : decode cX6_isWhom 7 = .ok (.invokevirtual 95, 3) := by decide +kernel
theorem dX6_isWhom_10 : decode cX6_isWhom 10 = .ok (.ifCond .ne 15, 3) := by decide +kernel
theorem dX6_isWhom_13 : decode cX6_isWhom 13 = .ok (.iload_n 2, 1) := by decide +kernel
theorem dX6_isWhom_14 : decode cX6_isWhom 14 = .ok (.bipush 8, 2) := by decide +kernel
theorem dX6_isWhom_16 : decode cX6_isWhom 16 = .ok (.if_icmp .eq 9, 3) := by decide +kernel
theorem dX6_isWhom_19 : decode cX6_isWhom 19 = .ok (.iload_n 2, 1) := by decide +kernel
theorem dX6_isWhom_20 : decode cX6_isWhom 20 = .ok (.bipush 9, 2) := by decide +kernel
theorem dX6_isWhom_22 : decode cX6_isWhom 22 = .ok (.if_icmp .ne 7, 3) := by decide +kernel
theorem dX6_isWhom_25 : decode cX6_isWhom 25 = .ok (.iconst 1, 1) := by decide +kernel
theorem dX6_isWhom_26 : decode cX6_isWhom 26 = .ok (.goto 4, 3) := by decide +kernel
theorem dX6_isWhom_29 : decode cX6_isWhom 29 = .ok (.iconst 0, 1) := by decide +kernel
theorem dX6_isWhom_30 : decode cX6_isWhom 30 = .ok (.ireturn, 1) := by decide +kernel
set_option maxRecDepth 20000 in
theorem ggX6_hear_X6_isDesk : GoodIn wsX6_hear wsX6_isDesk := goodIn_r _ [6, 7, 8, 9, 5, 10, 20, 21, 22, 23, 24, 25, 26, 27, 28, 29, 30, 31, 32, 33, 34] (by decide +kernel) (by decide +kernel)
set_option maxRecDepth 20000 in
theorem gX6_hear_X6_isDesk : GoodIn wsX6_hear (wsV RX6 95 RX6 yX6_isDesk wsX6_isDesk) := goodIn_app (goodIn_of _ (by decide +kernel)) ggX6_hear_X6_isDesk
set_option maxRecDepth 20000 in
theorem ggX6_hear_X6_isWhom : GoodIn wsX6_hear wsX6_isWhom := goodIn_r _ [14, 2, 3, 4, 5, 6, 7, 8, 9, 10, 20, 21, 22, 23, 24, 25, 26, 27, 28, 29, 30, 31, 32, 33, 34] (by decide +kernel) (by decide +kernel)
set_option maxRecDepth 20000 in
theorem gX6_hear_X6_isWhom : GoodIn wsX6_hear (wsV RX6 162 RX6 yX6_isWhom wsX6_isWhom) := goodIn_app (goodIn_of _ (by decide +kernel)) ggX6_hear_X6_isWhom
set_option maxRecDepth 20000 in
theorem ggX6_hear_X6_minds : GoodIn wsX6_hear wsX6_minds := goodIn_r _ [18, 19, 1, 20, 21, 22, 23, 24, 25, 26, 27, 28, 29, 30, 31, 32, 33, 34] (by decide +kernel) (by decide +kernel)
set_option maxRecDepth 20000 in
theorem gX6_hear_X6_minds : GoodIn wsX6_hear (wsV RX6 149 RX6 yX6_minds wsX6_minds) := goodIn_app (goodIn_of _ (by decide +kernel)) ggX6_hear_X6_minds
theorem dX6_hear_0 : decode cX6_hear 0 = .ok (.aload_n 0, 1) := by decide +kernel
theorem dX6_hear_1 : decode cX6_hear 1 = .ok (.iload_n 1, 1) := by decide +kernel
theorem dX6_hear_2 : decode cX6_hear 2 = .ok (.invokevirtual 95, 3) := by decide +kernel
theorem dX6_hear_5 : decode cX6_hear 5 = .ok (.ifCond .eq 12, 3) := by decide +kernel
theorem dX6_hear_8 : decode cX6_hear 8 = .ok (.aload_n 0, 1) := by decide +kernel
theorem dX6_hear_9 : decode cX6_hear 9 = .ok (.iload_n 1, 1) := by decide +kernel
theorem dX6_hear_10 : decode cX6_hear 10 = .ok (.iload_n 2, 1) := by decide +kernel
theorem dX6_hear_11 : decode cX6_hear 11 = .ok (.invokevirtual 162, 3) := by decide +kernel
theorem dX6_hear_14 : decode cX6_hear 14 = .ok (.ifCond .ne 5, 3) := by decide +kernel
theorem dX6_hear_17 : decode cX6_hear 17 = .ok (.iconst (-1), 1) := by decide +kernel
theorem dX6_hear_18 : decode cX6_hear 18 = .ok (.ireturn, 1) := by decide +kernel
theorem dX6_hear_19 : decode cX6_hear 19 = .ok (.aload_n 0, 1) := by decide +kernel
theorem dX6_hear_20 : decode cX6_hear 20 = .ok (.invokevirtual 149, 3) := by decide +kernel
theorem dX6_hear_23 : decode cX6_hear 23 = .ok (.aload_n 0, 1) := by decide +kernel
theorem dX6_hear_24 : decode cX6_hear 24 = .ok (.getfield 13, 3) := by decide +kernel
theorem dX6_hear_27 : decode cX6_hear 27 = .ok (.bipush 10, 2) := by decide +kernel
theorem dX6_hear_29 : decode cX6_hear 29 = .ok (.iload_n 1, 1) := by decide +kernel
theorem dX6_hear_30 : decode cX6_hear 30 = .ok (.iadd, 1) := by decide +kernel
theorem dX6_hear_31 : decode cX6_hear 31 = .ok (.iaload, 1) := by decide +kernel
theorem dX6_hear_32 : decode cX6_hear 32 = .ok (.istore_n 3, 1) := by decide +kernel
theorem dX6_hear_33 : decode cX6_hear 33 = .ok (.aload_n 0, 1) := by decide +kernel
theorem dX6_hear_34 : decode cX6_hear 34 = .ok (.getfield 13, 3) := by decide +kernel
theorem dX6_hear_37 : decode cX6_hear 37 = .ok (.bipush 10, 2) := by decide +kernel
theorem dX6_hear_39 : decode cX6_hear 39 = .ok (.iload_n 1, 1) := by decide +kernel
theorem dX6_hear_40 : decode cX6_hear 40 = .ok (.iadd, 1) := by decide +kernel
theorem dX6_hear_41 : decode cX6_hear 41 = .ok (.iload_n 2, 1) := by decide +kernel
theorem dX6_hear_42 : decode cX6_hear 42 = .ok (.iastore, 1) := by decide +kernel
theorem dX6_hear_43 : decode cX6_hear 43 = .ok (.iload_n 3, 1) := by decide +kernel
theorem dX6_hear_44 : decode cX6_hear 44 = .ok (.ireturn, 1) := by decide +kernel
theorem dX6_undo_0 : decode cX6_undo 0 = .ok (.aload_n 0, 1) := by decide +kernel
theorem dX6_undo_1 : decode cX6_undo 1 = .ok (.getfield 44, 3) := by decide +kernel
theorem dX6_undo_4 : decode cX6_undo 4 = .ok (.ifCond .ne 6, 3) := by decide +kernel
theorem dX6_undo_7 : decode cX6_undo 7 = .ok (.bipush (-2), 2) := by decide +kernel
theorem dX6_undo_9 : decode cX6_undo 9 = .ok (.ireturn, 1) := by decide +kernel
theorem dX6_undo_10 : decode cX6_undo 10 = .ok (.aload_n 0, 1) := by decide +kernel
theorem dX6_undo_11 : decode cX6_undo 11 = .ok (.dup, 1) := by decide +kernel
theorem dX6_undo_12 : decode cX6_undo 12 = .ok (.getfield 44, 3) := by decide +kernel
theorem dX6_undo_15 : decode cX6_undo 15 = .ok (.iconst 1, 1) := by decide +kernel
theorem dX6_undo_16 : decode cX6_undo 16 = .ok (.isub, 1) := by decide +kernel
theorem dX6_undo_17 : decode cX6_undo 17 = .ok (.putfield 44, 3) := by decide +kernel
theorem dX6_undo_20 : decode cX6_undo 20 = .ok (.iconst 0, 1) := by decide +kernel
theorem dX6_undo_21 : decode cX6_undo 21 = .ok (.istore_n 1, 1) := by decide +kernel
theorem dX6_undo_22 : decode cX6_undo 22 = .ok (.iload_n 1, 1) := by decide +kernel
theorem dX6_undo_23 : decode cX6_undo 23 = .ok (.bipush 18, 2) := by decide +kernel
theorem dX6_undo_25 : decode cX6_undo 25 = .ok (.if_icmp .ge 32, 3) := by decide +kernel
theorem dX6_undo_28 : decode cX6_undo 28 = .ok (.aload_n 0, 1) := by decide +kernel
theorem dX6_undo_29 : decode cX6_undo 29 = .ok (.getfield 13, 3) := by decide +kernel
theorem dX6_undo_32 : decode cX6_undo 32 = .ok (.iload_n 1, 1) := by decide +kernel
theorem dX6_undo_33 : decode cX6_undo 33 = .ok (.aload_n 0, 1) := by decide +kernel
theorem dX6_undo_34 : decode cX6_undo 34 = .ok (.getfield 13, 3) := by decide +kernel
theorem dX6_undo_37 : decode cX6_undo 37 = .ok (.bipush 54, 2) := by decide +kernel
theorem dX6_undo_39 : decode cX6_undo 39 = .ok (.bipush 18, 2) := by decide +kernel
theorem dX6_undo_41 : decode cX6_undo 41 = .ok (.aload_n 0, 1) := by decide +kernel
theorem dX6_undo_42 : decode cX6_undo 42 = .ok (.getfield 44, 3) := by decide +kernel
theorem dX6_undo_45 : decode cX6_undo 45 = .ok (.imul, 1) := by decide +kernel
theorem dX6_undo_46 : decode cX6_undo 46 = .ok (.iadd, 1) := by decide +kernel
theorem dX6_undo_47 : decode cX6_undo 47 = .ok (.iload_n 1, 1) := by decide +kernel
theorem dX6_undo_48 : decode cX6_undo 48 = .ok (.iadd, 1) := by decide +kernel
theorem dX6_undo_49 : decode cX6_undo 49 = .ok (.iaload, 1) := by decide +kernel
theorem dX6_undo_50 : decode cX6_undo 50 = .ok (.iastore, 1) := by decide +kernel
theorem dX6_undo_51 : decode cX6_undo 51 = .ok (.iinc 1 1, 3) := by decide +kernel
theorem dX6_undo_54 : decode cX6_undo 54 = .ok (.goto (-32), 3) := by decide +kernel
theorem dX6_undo_57 : decode cX6_undo 57 = .ok (.aload_n 0, 1) := by decide +kernel
theorem dX6_undo_58 : decode cX6_undo 58 = .ok (.getfield 44, 3) := by decide +kernel
theorem dX6_undo_61 : decode cX6_undo 61 = .ok (.ireturn, 1) := by decide +kernel
set_option maxRecDepth 20000 in
theorem ggX6_spread_X6_spreadOf : GoodIn wsX6_spread wsX6_spreadOf := goodIn_r _ [5, 6, 7, 8, 9, 10, 11, 12, 13, 14, 15, 16, 17, 18, 19, 20, 21, 22] (by decide +kernel) (by decide +kernel)
set_option maxRecDepth 20000 in
theorem gX6_spread_X6_spreadOf : GoodIn wsX6_spread (wsV RX6 165 RX6 yX6_spreadOf wsX6_spreadOf) := goodIn_app (goodIn_of _ (by decide +kernel)) ggX6_spread_X6_spreadOf
theorem dX6_spread_0 : decode cX6_spread 0 = .ok (.aload_n 0, 1) := by decide +kernel
theorem dX6_spread_1 : decode cX6_spread 1 = .ok (.iconst 0, 1) := by decide +kernel
theorem dX6_spread_2 : decode cX6_spread 2 = .ok (.invokevirtual 165, 3) := by decide +kernel
theorem dX6_spread_5 : decode cX6_spread 5 = .ok (.ireturn, 1) := by decide +kernel
set_option maxRecDepth 20000 in
theorem ggX6_heard_X6_heardOf : GoodIn wsX6_heard wsX6_heardOf := goodIn_r _ [5, 6, 7, 8, 9, 4, 10, 11, 12, 13, 14, 15, 16, 17, 18, 19, 20, 21, 22, 23, 24, 25] (by decide +kernel) (by decide +kernel)
set_option maxRecDepth 20000 in
theorem gX6_heard_X6_heardOf : GoodIn wsX6_heard (wsV RX6 168 RX6 yX6_heardOf wsX6_heardOf) := goodIn_app (goodIn_of _ (by decide +kernel)) ggX6_heard_X6_heardOf
theorem dX6_heard_0 : decode cX6_heard 0 = .ok (.aload_n 0, 1) := by decide +kernel
theorem dX6_heard_1 : decode cX6_heard 1 = .ok (.iconst 0, 1) := by decide +kernel
theorem dX6_heard_2 : decode cX6_heard 2 = .ok (.invokevirtual 168, 3) := by decide +kernel
theorem dX6_heard_5 : decode cX6_heard 5 = .ok (.ireturn, 1) := by decide +kernel
theorem dX6_common_0 : decode cX6_common 0 = .ok (.iload_n 0, 1) := by decide +kernel
theorem dX6_common_1 : decode cX6_common 1 = .ok (.istore_n 2, 1) := by decide +kernel
theorem dX6_common_2 : decode cX6_common 2 = .ok (.iload_n 1, 1) := by decide +kernel
theorem dX6_common_3 : decode cX6_common 3 = .ok (.istore_n 3, 1) := by decide +kernel
theorem dX6_common_4 : decode cX6_common 4 = .ok (.iload_n 3, 1) := by decide +kernel
theorem dX6_common_5 : decode cX6_common 5 = .ok (.ifCond .eq 16, 3) := by decide +kernel
theorem dX6_common_8 : decode cX6_common 8 = .ok (.iload_n 2, 1) := by decide +kernel
theorem dX6_common_9 : decode cX6_common 9 = .ok (.iload_n 3, 1) := by decide +kernel
theorem dX6_common_10 : decode cX6_common 10 = .ok (.irem, 1) := by decide +kernel
theorem dX6_common_11 : decode cX6_common 11 = .ok (.istore 4, 2) := by decide +kernel
theorem dX6_common_13 : decode cX6_common 13 = .ok (.iload_n 3, 1) := by decide +kernel
theorem dX6_common_14 : decode cX6_common 14 = .ok (.istore_n 2, 1) := by decide +kernel
theorem dX6_common_15 : decode cX6_common 15 = .ok (.iload 4, 2) := by decide +kernel
theorem dX6_common_17 : decode cX6_common 17 = .ok (.istore_n 3, 1) := by decide +kernel
theorem dX6_common_18 : decode cX6_common 18 = .ok (.goto (-14), 3) := by decide +kernel
theorem dX6_common_21 : decode cX6_common 21 = .ok (.iload_n 2, 1) := by decide +kernel
theorem dX6_common_22 : decode cX6_common 22 = .ok (.ireturn, 1) := by decide +kernel
set_option maxRecDepth 20000 in
theorem ggX6_mean_X6_in : GoodIn wsX6_mean wsX6_in := goodIn_r _ [6] (by decide +kernel) (by decide +kernel)
set_option maxRecDepth 20000 in
theorem gX6_mean_X6_in : GoodIn wsX6_mean (va_wsS RX6 58 yX6_in wsX6_in) := goodIn_app (goodIn_of _ (by decide +kernel)) ggX6_mean_X6_in
set_option maxRecDepth 20000 in
theorem ggX6_mean_X6_common : GoodIn wsX6_mean wsX6_common := goodIn_r _ [9] (by decide +kernel) (by decide +kernel)
set_option maxRecDepth 20000 in
theorem gX6_mean_X6_common : GoodIn wsX6_mean (va_wsS RX6 171 yX6_common wsX6_common) := goodIn_app (goodIn_of _ (by decide +kernel)) ggX6_mean_X6_common
theorem dX6_mean_0 : decode cX6_mean 0 = .ok (.iload_n 1, 1) := by decide +kernel
theorem dX6_mean_1 : decode cX6_mean 1 = .ok (.i2l, 1) := by decide +kernel
theorem dX6_mean_2 : decode cX6_mean 2 = .ok (.lconst 0, 1) := by decide +kernel
theorem dX6_mean_3 : decode cX6_mean 3 = .ok (.lconst 1, 1) := by decide +kernel
theorem dX6_mean_4 : decode cX6_mean 4 = .ok (.invokestatic 58, 3) := by decide +kernel
theorem dX6_mean_7 : decode cX6_mean 7 = .ok (.ifCond .ne 5, 3) := by decide +kernel
theorem dX6_mean_10 : decode cX6_mean 10 = .ok (.iconst (-1), 1) := by decide +kernel
theorem dX6_mean_11 : decode cX6_mean 11 = .ok (.ireturn, 1) := by decide +kernel
theorem dX6_mean_12 : decode cX6_mean 12 = .ok (.sipush 1000, 3) := by decide +kernel
theorem dX6_mean_15 : decode cX6_mean 15 = .ok (.aload_n 0, 1) := by decide +kernel
theorem dX6_mean_16 : decode cX6_mean 16 = .ok (.getfield 7, 3) := by decide +kernel
theorem dX6_mean_19 : decode cX6_mean 19 = .ok (.iconst 0, 1) := by decide +kernel
theorem dX6_mean_20 : decode cX6_mean 20 = .ok (.iaload, 1) := by decide +kernel
theorem dX6_mean_21 : decode cX6_mean 21 = .ok (.imul, 1) := by decide +kernel
theorem dX6_mean_22 : decode cX6_mean 22 = .ok (.istore_n 2, 1) := by decide +kernel
theorem dX6_mean_23 : decode cX6_mean 23 = .ok (.iconst 0, 1) := by decide +kernel
theorem dX6_mean_24 : decode cX6_mean 24 = .ok (.istore_n 3, 1) := by decide +kernel
theorem dX6_mean_25 : decode cX6_mean 25 = .ok (.iload_n 3, 1) := by decide +kernel
theorem dX6_mean_26 : decode cX6_mean 26 = .ok (.aload_n 0, 1) := by decide +kernel
theorem dX6_mean_27 : decode cX6_mean 27 = .ok (.getfield 7, 3) := by decide +kernel
theorem dX6_mean_30 : decode cX6_mean 30 = .ok (.iconst 0, 1) := by decide +kernel
theorem dX6_mean_31 : decode cX6_mean 31 = .ok (.iaload, 1) := by decide +kernel
theorem dX6_mean_32 : decode cX6_mean 32 = .ok (.if_icmp .ge 20, 3) := by decide +kernel
theorem dX6_mean_35 : decode cX6_mean 35 = .ok (.iload_n 2, 1) := by decide +kernel
theorem dX6_mean_36 : decode cX6_mean 36 = .ok (.aload_n 0, 1) := by decide +kernel
theorem dX6_mean_37 : decode cX6_mean 37 = .ok (.getfield 13, 3) := by decide +kernel
theorem dX6_mean_40 : decode cX6_mean 40 = .ok (.iconst 0, 1) := by decide +kernel
theorem dX6_mean_41 : decode cX6_mean 41 = .ok (.iload_n 3, 1) := by decide +kernel
theorem dX6_mean_42 : decode cX6_mean 42 = .ok (.iadd, 1) := by decide +kernel
theorem dX6_mean_43 : decode cX6_mean 43 = .ok (.iaload, 1) := by decide +kernel
theorem dX6_mean_44 : decode cX6_mean 44 = .ok (.iadd, 1) := by decide +kernel
theorem dX6_mean_45 : decode cX6_mean 45 = .ok (.istore_n 2, 1) := by decide +kernel
theorem dX6_mean_46 : decode cX6_mean 46 = .ok (.iinc 3 1, 3) := by decide +kernel
theorem dX6_mean_49 : decode cX6_mean 49 = .ok (.goto (-24), 3) := by decide +kernel
theorem dX6_mean_52 : decode cX6_mean 52 = .ok (.iload_n 2, 1) := by decide +kernel
theorem dX6_mean_53 : decode cX6_mean 53 = .ok (.aload_n 0, 1) := by decide +kernel
theorem dX6_mean_54 : decode cX6_mean 54 = .ok (.getfield 7, 3) := by decide +kernel
theorem dX6_mean_57 : decode cX6_mean 57 = .ok (.iconst 0, 1) := by decide +kernel
theorem dX6_mean_58 : decode cX6_mean 58 = .ok (.iaload, 1) := by decide +kernel
theorem dX6_mean_59 : decode cX6_mean 59 = .ok (.invokestatic 171, 3) := by decide +kernel
theorem dX6_mean_62 : decode cX6_mean 62 = .ok (.istore_n 3, 1) := by decide +kernel
theorem dX6_mean_63 : decode cX6_mean 63 = .ok (.iload_n 1, 1) := by decide +kernel
theorem dX6_mean_64 : decode cX6_mean 64 = .ok (.ifCond .ne 9, 3) := by decide +kernel
theorem dX6_mean_67 : decode cX6_mean 67 = .ok (.iload_n 2, 1) := by decide +kernel
theorem dX6_mean_68 : decode cX6_mean 68 = .ok (.iload_n 3, 1) := by decide +kernel
theorem dX6_mean_69 : decode cX6_mean 69 = .ok (.idiv, 1) := by decide +kernel
theorem dX6_mean_70 : decode cX6_mean 70 = .ok (.goto 11, 3) := by decide +kernel
theorem dX6_mean_73 : decode cX6_mean 73 = .ok (.aload_n 0, 1) := by decide +kernel
theorem dX6_mean_74 : decode cX6_mean 74 = .ok (.getfield 7, 3) := by decide +kernel
theorem dX6_mean_77 : decode cX6_mean 77 = .ok (.iconst 0, 1) := by decide +kernel
theorem dX6_mean_78 : decode cX6_mean 78 = .ok (.iaload, 1) := by decide +kernel
theorem dX6_mean_79 : decode cX6_mean 79 = .ok (.iload_n 3, 1) := by decide +kernel
theorem dX6_mean_80 : decode cX6_mean 80 = .ok (.idiv, 1) := by decide +kernel
theorem dX6_mean_81 : decode cX6_mean 81 = .ok (.ireturn, 1) := by decide +kernel
set_option maxRecDepth 20000 in
theorem ggX6_round_X6_in : GoodIn wsX6_round wsX6_in := goodIn_r _ [7] (by decide +kernel) (by decide +kernel)
set_option maxRecDepth 20000 in
theorem gX6_round_X6_in : GoodIn wsX6_round (va_wsS RX6 58 yX6_in wsX6_in) := goodIn_app (goodIn_of _ (by decide +kernel)) ggX6_round_X6_in
set_option maxRecDepth 20000 in
theorem ggX6_round_X6_lays : GoodIn wsX6_round wsX6_lays := goodIn_r _ [11, 3, 65, 66, 67, 68, 69, 70, 71, 72, 73, 74, 75, 76, 77, 78, 79] (by decide +kernel) (by decide +kernel)
set_option maxRecDepth 20000 in
theorem gX6_round_X6_lays : GoodIn wsX6_round (wsV RX6 152 RX6 yX6_lays wsX6_lays) := goodIn_app (goodIn_of _ (by decide +kernel)) ggX6_round_X6_lays
set_option maxRecDepth 20000 in
theorem ggX6_round_X6_laysLeans : GoodIn wsX6_round wsX6_laysLeans := goodIn_r _ [15, 16, 2, 17, 18, 65, 66, 67, 68, 69, 70, 71, 72, 73, 74, 75, 76, 77, 78, 79] (by decide +kernel) (by decide +kernel)
set_option maxRecDepth 20000 in
theorem gX6_round_X6_laysLeans : GoodIn wsX6_round (wsV RX6 155 RX6 yX6_laysLeans wsX6_laysLeans) := goodIn_app (goodIn_of _ (by decide +kernel)) ggX6_round_X6_laysLeans
set_option maxRecDepth 20000 in
theorem ggX6_round_X6_rounds : GoodIn wsX6_round wsX6_rounds := goodIn_r _ [22, 23, 24, 25, 6, 26, 2, 27, 28, 29, 30, 31, 3, 16, 17, 32, 33, 34, 35, 36, 37, 38, 39, 40, 41, 42, 43, 44, 45, 46, 47, 18, 48, 49, 50, 51, 52, 53, 54, 55, 56, 57, 58, 59, 60, 65, 66, 67, 68, 69, 70, 71, 72, 73, 74, 75, 76, 77, 78, 79] (by decide +kernel) (by decide +kernel)
set_option maxRecDepth 20000 in
theorem gX6_round_X6_rounds : GoodIn wsX6_round (wsV RX6 177 RX6 yX6_rounds wsX6_rounds) := goodIn_app (goodIn_of _ (by decide +kernel)) ggX6_round_X6_rounds
set_option maxRecDepth 20000 in
theorem ggX6_round_X6_spreadOf : GoodIn wsX6_round wsX6_spreadOf := goodIn_r _ [64, 3, 2, 65, 66, 67, 68, 69, 70, 71, 72, 73, 74, 75, 76, 77, 78, 79] (by decide +kernel) (by decide +kernel)
set_option maxRecDepth 20000 in
theorem gX6_round_X6_spreadOf : GoodIn wsX6_round (wsV RX6 165 RX6 yX6_spreadOf wsX6_spreadOf) := goodIn_app (goodIn_of _ (by decide +kernel)) ggX6_round_X6_spreadOf
theorem dX6_round_0 : decode cX6_round 0 = .ok (.iload_n 1, 1) := by decide +kernel
theorem dX6_round_1 : decode cX6_round 1 = .ok (.i2l, 1) := by decide +kernel
theorem dX6_round_2 : decode cX6_round 2 = .ok (.ldc2_w 175, 3) := by decide +kernel
theorem dX6_round_5 : decode cX6_round 5 = .ok (.aload_n 0, 1) := by decide +kernel
theorem dX6_round_6 : decode cX6_round 6 = .ok (.getfield 7, 3) := by decide +kernel
theorem dX6_round_9 : decode cX6_round 9 = .ok (.iconst 0, 1) := by decide +kernel
theorem dX6_round_10 : decode cX6_round 10 = .ok (.iaload, 1) := by decide +kernel
theorem dX6_round_11 : decode cX6_round 11 = .ok (.iconst 1, 1) := by decide +kernel
theorem dX6_round_12 : decode cX6_round 12 = .ok (.isub, 1) := by decide +kernel
theorem dX6_round_13 : decode cX6_round 13 = .ok (.i2l, 1) := by decide +kernel
theorem dX6_round_14 : decode cX6_round 14 = .ok (.invokestatic 58, 3) := by decide +kernel
theorem dX6_round_17 : decode cX6_round 17 = .ok (.ifCond .ne 5, 3) := by decide +kernel
theorem dX6_round_20 : decode cX6_round 20 = .ok (.iconst (-1), 1) := by decide +kernel
theorem dX6_round_21 : decode cX6_round 21 = .ok (.ireturn, 1) := by decide +kernel
theorem dX6_round_22 : decode cX6_round 22 = .ok (.aload_n 0, 1) := by decide +kernel
theorem dX6_round_23 : decode cX6_round 23 = .ok (.invokevirtual 152, 3) := by decide +kernel
theorem dX6_round_26 : decode cX6_round 26 = .ok (.aload_n 0, 1) := by decide +kernel
theorem dX6_round_27 : decode cX6_round 27 = .ok (.invokevirtual 155, 3) := by decide +kernel
theorem dX6_round_30 : decode cX6_round 30 = .ok (.aload_n 0, 1) := by decide +kernel
theorem dX6_round_31 : decode cX6_round 31 = .ok (.invokevirtual 177, 3) := by decide +kernel
theorem dX6_round_34 : decode cX6_round 34 = .ok (.istore_n 2, 1) := by decide +kernel
theorem dX6_round_35 : decode cX6_round 35 = .ok (.iload_n 1, 1) := by decide +kernel
theorem dX6_round_36 : decode cX6_round 36 = .ok (.iconst (-1), 1) := by decide +kernel
theorem dX6_round_37 : decode cX6_round 37 = .ok (.if_icmp .ne 13, 3) := by decide +kernel
theorem dX6_round_40 : decode cX6_round 40 = .ok (.aload_n 0, 1) := by decide +kernel
theorem dX6_round_41 : decode cX6_round 41 = .ok (.sipush 198, 3) := by decide +kernel
theorem dX6_round_44 : decode cX6_round 44 = .ok (.invokevirtual 165, 3) := by decide +kernel
theorem dX6_round_47 : decode cX6_round 47 = .ok (.goto 27, 3) := by decide +kernel
theorem dX6_round_50 : decode cX6_round 50 = .ok (.iload_n 1, 1) := by decide +kernel
theorem dX6_round_51 : decode cX6_round 51 = .ok (.bipush (-2), 2) := by decide +kernel
theorem dX6_round_53 : decode cX6_round 53 = .ok (.if_icmp .ne 7, 3) := by decide +kernel
theorem dX6_round_56 : decode cX6_round 56 = .ok (.iload_n 2, 1) := by decide +kernel
theorem dX6_round_57 : decode cX6_round 57 = .ok (.goto 17, 3) := by decide +kernel
theorem dX6_round_60 : decode cX6_round 60 = .ok (.aload_n 0, 1) := by decide +kernel
theorem dX6_round_61 : decode cX6_round 61 = .ok (.getfield 13, 3) := by decide +kernel
theorem dX6_round_64 : decode cX6_round 64 = .ok (.sipush 198, 3) := by decide +kernel
theorem dX6_round_67 : decode cX6_round 67 = .ok (.iload_n 1, 1) := by decide +kernel
theorem dX6_round_68 : decode cX6_round 68 = .ok (.iadd, 1) := by decide +kernel
theorem dX6_round_69 : decode cX6_round 69 = .ok (.iaload, 1) := by decide +kernel
theorem dX6_round_70 : decode cX6_round 70 = .ok (.sipush 1000, 3) := by decide +kernel
theorem dX6_round_73 : decode cX6_round 73 = .ok (.iadd, 1) := by decide +kernel
theorem dX6_round_74 : decode cX6_round 74 = .ok (.ireturn, 1) := by decide +kernel
set_option maxRecDepth 20000 in
theorem ggX6_halves_X6_in : GoodIn wsX6_halves wsX6_in := goodIn_r _ [6] (by decide +kernel) (by decide +kernel)
set_option maxRecDepth 20000 in
theorem gX6_halves_X6_in : GoodIn wsX6_halves (va_wsS RX6 58 yX6_in wsX6_in) := goodIn_app (goodIn_of _ (by decide +kernel)) ggX6_halves_X6_in
set_option maxRecDepth 20000 in
theorem ggX6_halves_X6_laysLeans : GoodIn wsX6_halves wsX6_laysLeans := goodIn_r _ [10, 11, 2, 12, 13, 57, 58, 59, 60, 61, 62, 63, 64, 65, 66, 67, 68, 69, 70, 71] (by decide +kernel) (by decide +kernel)
set_option maxRecDepth 20000 in
theorem gX6_halves_X6_laysLeans : GoodIn wsX6_halves (wsV RX6 155 RX6 yX6_laysLeans wsX6_laysLeans) := goodIn_app (goodIn_of _ (by decide +kernel)) ggX6_halves_X6_laysLeans
set_option maxRecDepth 20000 in
theorem ggX6_halves_X6_lays : GoodIn wsX6_halves wsX6_lays := goodIn_r _ [17, 18, 57, 58, 59, 60, 61, 62, 63, 64, 65, 66, 67, 68, 69, 70, 71] (by decide +kernel) (by decide +kernel)
set_option maxRecDepth 20000 in
theorem gX6_halves_X6_lays : GoodIn wsX6_halves (wsV RX6 152 RX6 yX6_lays wsX6_lays) := goodIn_app (goodIn_of _ (by decide +kernel)) ggX6_halves_X6_lays
set_option maxRecDepth 20000 in
theorem ggX6_halves_X6_tunes : GoodIn wsX6_halves wsX6_tunes := goodIn_r _ [22, 2, 23, 18, 11, 12, 24, 25, 26, 5, 27, 28, 29, 30, 31, 32, 33, 34, 35, 36, 37, 38, 39, 13, 40, 41, 42, 43, 44, 45, 46, 47, 48, 49, 50, 51, 52, 57, 58, 59, 60, 61, 62, 63, 64, 65, 66, 67, 68, 69, 70, 71] (by decide +kernel) (by decide +kernel)
set_option maxRecDepth 20000 in
theorem gX6_halves_X6_tunes : GoodIn wsX6_halves (wsV RX6 140 RX6 yX6_tunes wsX6_tunes) := goodIn_app (goodIn_of _ (by decide +kernel)) ggX6_halves_X6_tunes
set_option maxRecDepth 20000 in
theorem ggX6_halves_X6_spreadOf : GoodIn wsX6_halves wsX6_spreadOf := goodIn_r _ [56, 18, 2, 57, 58, 59, 60, 61, 62, 63, 64, 65, 66, 67, 68, 69, 70, 71] (by decide +kernel) (by decide +kernel)
set_option maxRecDepth 20000 in
theorem gX6_halves_X6_spreadOf : GoodIn wsX6_halves (wsV RX6 165 RX6 yX6_spreadOf wsX6_spreadOf) := goodIn_app (goodIn_of _ (by decide +kernel)) ggX6_halves_X6_spreadOf
theorem dX6_halves_0 : decode cX6_halves 0 = .ok (.iload_n 1, 1) := by decide +kernel
theorem dX6_halves_1 : decode cX6_halves 1 = .ok (.i2l, 1) := by decide +kernel
theorem dX6_halves_2 : decode cX6_halves 2 = .ok (.lconst 0, 1) := by decide +kernel
theorem dX6_halves_3 : decode cX6_halves 3 = .ok (.ldc2_w 180, 3) := by decide +kernel
theorem dX6_halves_6 : decode cX6_halves 6 = .ok (.invokestatic 58, 3) := by decide +kernel
theorem dX6_halves_9 : decode cX6_halves 9 = .ok (.ifCond .ne 5, 3) := by decide +kernel
theorem dX6_halves_12 : decode cX6_halves 12 = .ok (.iconst (-1), 1) := by decide +kernel
theorem dX6_halves_13 : decode cX6_halves 13 = .ok (.ireturn, 1) := by decide +kernel
theorem dX6_halves_14 : decode cX6_halves 14 = .ok (.iconst 1, 1) := by decide +kernel
theorem dX6_halves_15 : decode cX6_halves 15 = .ok (.aload_n 0, 1) := by decide +kernel
theorem dX6_halves_16 : decode cX6_halves 16 = .ok (.getfield 7, 3) := by decide +kernel
theorem dX6_halves_19 : decode cX6_halves 19 = .ok (.iconst 0, 1) := by decide +kernel
theorem dX6_halves_20 : decode cX6_halves 20 = .ok (.iaload, 1) := by decide +kernel
theorem dX6_halves_21 : decode cX6_halves 21 = .ok (.ishl, 1) := by decide +kernel
theorem dX6_halves_22 : decode cX6_halves 22 = .ok (.iconst 1, 1) := by decide +kernel
theorem dX6_halves_23 : decode cX6_halves 23 = .ok (.isub, 1) := by decide +kernel
theorem dX6_halves_24 : decode cX6_halves 24 = .ok (.istore_n 2, 1) := by decide +kernel
theorem dX6_halves_25 : decode cX6_halves 25 = .ok (.bipush (-4), 2) := by decide +kernel
theorem dX6_halves_27 : decode cX6_halves 27 = .ok (.istore_n 3, 1) := by decide +kernel
theorem dX6_halves_28 : decode cX6_halves 28 = .ok (.iconst 0, 1) := by decide +kernel
theorem dX6_halves_29 : decode cX6_halves 29 = .ok (.istore 4, 2) := by decide +kernel
theorem dX6_halves_31 : decode cX6_halves 31 = .ok (.iconst 0, 1) := by decide +kernel
theorem dX6_halves_32 : decode cX6_halves 32 = .ok (.istore 5, 2) := by decide +kernel
theorem dX6_halves_34 : decode cX6_halves 34 = .ok (.aload_n 0, 1) := by decide +kernel
theorem dX6_halves_35 : decode cX6_halves 35 = .ok (.invokevirtual 155, 3) := by decide +kernel
theorem dX6_halves_38 : decode cX6_halves 38 = .ok (.iconst 0, 1) := by decide +kernel
theorem dX6_halves_39 : decode cX6_halves 39 = .ok (.istore 6, 2) := by decide +kernel
theorem dX6_halves_41 : decode cX6_halves 41 = .ok (.iload 6, 2) := by decide +kernel
theorem dX6_halves_43 : decode cX6_halves 43 = .ok (.iload_n 2, 1) := by decide +kernel
theorem dX6_halves_44 : decode cX6_halves 44 = .ok (.if_icmp .gt 79, 3) := by decide +kernel
theorem dX6_halves_47 : decode cX6_halves 47 = .ok (.aload_n 0, 1) := by decide +kernel
theorem dX6_halves_48 : decode cX6_halves 48 = .ok (.invokevirtual 152, 3) := by decide +kernel
theorem dX6_halves_51 : decode cX6_halves 51 = .ok (.aload_n 0, 1) := by decide +kernel
theorem dX6_halves_52 : decode cX6_halves 52 = .ok (.iload 6, 2) := by decide +kernel
theorem dX6_halves_54 : decode cX6_halves 54 = .ok (.invokevirtual 140, 3) := by decide +kernel
theorem dX6_halves_57 : decode cX6_halves 57 = .ok (.aload_n 0, 1) := by decide +kernel
theorem dX6_halves_58 : decode cX6_halves 58 = .ok (.iload_n 2, 1) := by decide +kernel
theorem dX6_halves_59 : decode cX6_halves 59 = .ok (.iload 6, 2) := by decide +kernel
theorem dX6_halves_61 : decode cX6_halves 61 = .ok (.iconst (-1), 1) := by decide +kernel
theorem dX6_halves_62 : decode cX6_halves 62 = .ok (.ixor, 1) := by decide +kernel
theorem dX6_halves_63 : decode cX6_halves 63 = .ok (.iand, 1) := by decide +kernel
theorem dX6_halves_64 : decode cX6_halves 64 = .ok (.invokevirtual 140, 3) := by decide +kernel
theorem dX6_halves_67 : decode cX6_halves 67 = .ok (.iadd, 1) := by decide +kernel
theorem dX6_halves_68 : decode cX6_halves 68 = .ok (.istore 7, 2) := by decide +kernel
theorem dX6_halves_70 : decode cX6_halves 70 = .ok (.aload_n 0, 1) := by decide +kernel
theorem dX6_halves_71 : decode cX6_halves 71 = .ok (.sipush 198, 3) := by decide +kernel
theorem dX6_halves_74 : decode cX6_halves 74 = .ok (.invokevirtual 165, 3) := by decide +kernel
theorem dX6_halves_77 : decode cX6_halves 77 = .ok (.istore 8, 2) := by decide +kernel
theorem dX6_halves_79 : decode cX6_halves 79 = .ok (.iload_n 3, 1) := by decide +kernel
theorem dX6_halves_80 : decode cX6_halves 80 = .ok (.bipush (-4), 2) := by decide +kernel
theorem dX6_halves_82 : decode cX6_halves 82 = .ok (.if_icmp .eq 24, 3) := by decide +kernel
theorem dX6_halves_85 : decode cX6_halves 85 = .ok (.iload 8, 2) := by decide +kernel
theorem dX6_halves_87 : decode cX6_halves 87 = .ok (.iload 4, 2) := by decide +kernel
theorem dX6_halves_89 : decode cX6_halves 89 = .ok (.if_icmp .lt 17, 3) := by decide +kernel
theorem dX6_halves_92 : decode cX6_halves 92 = .ok (.iload 8, 2) := by decide +kernel
theorem dX6_halves_94 : decode cX6_halves 94 = .ok (.iload 4, 2) := by decide +kernel
theorem dX6_halves_96 : decode cX6_halves 96 = .ok (.if_icmp .ne 21, 3) := by decide +kernel
theorem dX6_halves_99 : decode cX6_halves 99 = .ok (.iload 7, 2) := by decide +kernel
theorem dX6_halves_101 : decode cX6_halves 101 = .ok (.iload 5, 2) := by decide +kernel
theorem dX6_halves_103 : decode cX6_halves 103 = .ok (.if_icmp .ge 14, 3) := by decide +kernel
theorem dX6_halves_106 : decode cX6_halves 106 = .ok (.iload 6, 2) := by decide +kernel
theorem dX6_halves_108 : decode cX6_halves 108 = .ok (.istore_n 3, 1) := by decide +kernel
theorem dX6_halves_109 : decode cX6_halves 109 = .ok (.iload 8, 2) := by decide +kernel
theorem dX6_halves_111 : decode cX6_halves 111 = .ok (.istore 4, 2) := by decide +kernel
theorem dX6_halves_113 : decode cX6_halves 113 = .ok (.iload 7, 2) := by decide +kernel
theorem dX6_halves_115 : decode cX6_halves 115 = .ok (.istore 5, 2) := by decide +kernel
theorem dX6_halves_117 : decode cX6_halves 117 = .ok (.iinc 6 1, 3) := by decide +kernel
theorem dX6_halves_120 : decode cX6_halves 120 = .ok (.goto (-79), 3) := by decide +kernel
theorem dX6_halves_123 : decode cX6_halves 123 = .ok (.iload_n 1, 1) := by decide +kernel
theorem dX6_halves_124 : decode cX6_halves 124 = .ok (.ifCond .ne 7, 3) := by decide +kernel
theorem dX6_halves_127 : decode cX6_halves 127 = .ok (.iload_n 3, 1) := by decide +kernel
theorem dX6_halves_128 : decode cX6_halves 128 = .ok (.goto 15, 3) := by decide +kernel
theorem dX6_halves_131 : decode cX6_halves 131 = .ok (.iload_n 1, 1) := by decide +kernel
theorem dX6_halves_132 : decode cX6_halves 132 = .ok (.iconst 1, 1) := by decide +kernel
theorem dX6_halves_133 : decode cX6_halves 133 = .ok (.if_icmp .ne 8, 3) := by decide +kernel
theorem dX6_halves_136 : decode cX6_halves 136 = .ok (.iload 4, 2) := by decide +kernel
theorem dX6_halves_138 : decode cX6_halves 138 = .ok (.goto 5, 3) := by decide +kernel
theorem dX6_halves_141 : decode cX6_halves 141 = .ok (.iload 5, 2) := by decide +kernel
theorem dX6_halves_143 : decode cX6_halves 143 = .ok (.ireturn, 1) := by decide +kernel
set_option maxRecDepth 20000 in
theorem ggX6_way_X6_isDesk : GoodIn wsX6_way wsX6_isDesk := goodIn_r _ [7, 2, 8, 9, 6, 10, 11, 12, 13, 14, 15, 16, 17, 18, 19, 20, 21, 22, 23, 24, 25] (by decide +kernel) (by decide +kernel)
set_option maxRecDepth 20000 in
theorem gX6_way_X6_isDesk : GoodIn wsX6_way (wsV RX6 95 RX6 yX6_isDesk wsX6_isDesk) := goodIn_app (goodIn_of _ (by decide +kernel)) ggX6_way_X6_isDesk
set_option maxRecDepth 20000 in
theorem ggX6_way_X6_in : GoodIn wsX6_way wsX6_in := goodIn_r _ [10] (by decide +kernel) (by decide +kernel)
set_option maxRecDepth 20000 in
theorem gX6_way_X6_in : GoodIn wsX6_way (va_wsS RX6 58 yX6_in wsX6_in) := goodIn_app (goodIn_of _ (by decide +kernel)) ggX6_way_X6_in
theorem dX6_way_0 : decode cX6_way 0 = .ok (.aload_n 0, 1) := by decide +kernel
theorem dX6_way_1 : decode cX6_way 1 = .ok (.iload_n 1, 1) := by decide +kernel
theorem dX6_way_2 : decode cX6_way 2 = .ok (.invokevirtual 95, 3) := by decide +kernel
theorem dX6_way_5 : decode cX6_way 5 = .ok (.ifCond .eq 13, 3) := by decide +kernel
theorem dX6_way_8 : decode cX6_way 8 = .ok (.iload_n 2, 1) := by decide +kernel
theorem dX6_way_9 : decode cX6_way 9 = .ok (.i2l, 1) := by decide +kernel
theorem dX6_way_10 : decode cX6_way 10 = .ok (.lconst 0, 1) := by decide +kernel
theorem dX6_way_11 : decode cX6_way 11 = .ok (.lconst 1, 1) := by decide +kernel
theorem dX6_way_12 : decode cX6_way 12 = .ok (.invokestatic 58, 3) := by decide +kernel
theorem dX6_way_15 : decode cX6_way 15 = .ok (.ifCond .ne 5, 3) := by decide +kernel
theorem dX6_way_18 : decode cX6_way 18 = .ok (.iconst (-1), 1) := by decide +kernel
theorem dX6_way_19 : decode cX6_way 19 = .ok (.ireturn, 1) := by decide +kernel
theorem dX6_way_20 : decode cX6_way 20 = .ok (.iload_n 1, 1) := by decide +kernel
theorem dX6_way_21 : decode cX6_way 21 = .ok (.istore_n 3, 1) := by decide +kernel
theorem dX6_way_22 : decode cX6_way 22 = .ok (.iconst 0, 1) := by decide +kernel
theorem dX6_way_23 : decode cX6_way 23 = .ok (.istore 4, 2) := by decide +kernel
theorem dX6_way_25 : decode cX6_way 25 = .ok (.iconst 0, 1) := by decide +kernel
theorem dX6_way_26 : decode cX6_way 26 = .ok (.istore 5, 2) := by decide +kernel
theorem dX6_way_28 : decode cX6_way 28 = .ok (.iload_n 3, 1) := by decide +kernel
theorem dX6_way_29 : decode cX6_way 29 = .ok (.bipush 8, 2) := by decide +kernel
theorem dX6_way_31 : decode cX6_way 31 = .ok (.if_icmp .ge 60, 3) := by decide +kernel
theorem dX6_way_34 : decode cX6_way 34 = .ok (.iload 4, 2) := by decide +kernel
theorem dX6_way_36 : decode cX6_way 36 = .ok (.bipush 8, 2) := by decide +kernel
theorem dX6_way_38 : decode cX6_way 38 = .ok (.if_icmp .gt 53, 3) := by decide +kernel
theorem dX6_way_41 : decode cX6_way 41 = .ok (.iload 5, 2) := by decide +kernel
theorem dX6_way_43 : decode cX6_way 43 = .ok (.aload_n 0, 1) := by decide +kernel
theorem dX6_way_44 : decode cX6_way 44 = .ok (.getfield 13, 3) := by decide +kernel
theorem dX6_way_47 : decode cX6_way 47 = .ok (.bipush 10, 2) := by decide +kernel
theorem dX6_way_49 : decode cX6_way 49 = .ok (.iload_n 3, 1) := by decide +kernel
theorem dX6_way_50 : decode cX6_way 50 = .ok (.iadd, 1) := by decide +kernel
theorem dX6_way_51 : decode cX6_way 51 = .ok (.iaload, 1) := by decide +kernel
theorem dX6_way_52 : decode cX6_way 52 = .ok (.bipush 8, 2) := by decide +kernel
theorem dX6_way_54 : decode cX6_way 54 = .ok (.if_icmp .ne 7, 3) := by decide +kernel
theorem dX6_way_57 : decode cX6_way 57 = .ok (.iconst 0, 1) := by decide +kernel
theorem dX6_way_58 : decode cX6_way 58 = .ok (.goto 14, 3) := by decide +kernel
theorem dX6_way_61 : decode cX6_way 61 = .ok (.aload_n 0, 1) := by decide +kernel
theorem dX6_way_62 : decode cX6_way 62 = .ok (.getfield 7, 3) := by decide +kernel
theorem dX6_way_65 : decode cX6_way 65 = .ok (.bipush 9, 2) := by decide +kernel
theorem dX6_way_67 : decode cX6_way 67 = .ok (.iload_n 3, 1) := by decide +kernel
theorem dX6_way_68 : decode cX6_way 68 = .ok (.iadd, 1) := by decide +kernel
theorem dX6_way_69 : decode cX6_way 69 = .ok (.iaload, 1) := by decide +kernel
theorem dX6_way_70 : decode cX6_way 70 = .ok (.iconst 3, 1) := by decide +kernel
theorem dX6_way_71 : decode cX6_way 71 = .ok (.isub, 1) := by decide +kernel
theorem dX6_way_72 : decode cX6_way 72 = .ok (.iadd, 1) := by decide +kernel
theorem dX6_way_73 : decode cX6_way 73 = .ok (.istore 5, 2) := by decide +kernel
theorem dX6_way_75 : decode cX6_way 75 = .ok (.aload_n 0, 1) := by decide +kernel
theorem dX6_way_76 : decode cX6_way 76 = .ok (.getfield 13, 3) := by decide +kernel
theorem dX6_way_79 : decode cX6_way 79 = .ok (.bipush 10, 2) := by decide +kernel
theorem dX6_way_81 : decode cX6_way 81 = .ok (.iload_n 3, 1) := by decide +kernel
theorem dX6_way_82 : decode cX6_way 82 = .ok (.iadd, 1) := by decide +kernel
theorem dX6_way_83 : decode cX6_way 83 = .ok (.iaload, 1) := by decide +kernel
theorem dX6_way_84 : decode cX6_way 84 = .ok (.istore_n 3, 1) := by decide +kernel
theorem dX6_way_85 : decode cX6_way 85 = .ok (.iinc 4 1, 3) := by decide +kernel
theorem dX6_way_88 : decode cX6_way 88 = .ok (.goto (-60), 3) := by decide +kernel
theorem dX6_way_91 : decode cX6_way 91 = .ok (.iload_n 3, 1) := by decide +kernel
theorem dX6_way_92 : decode cX6_way 92 = .ok (.bipush 8, 2) := by decide +kernel
theorem dX6_way_94 : decode cX6_way 94 = .ok (.if_icmp .ge 8, 3) := by decide +kernel
theorem dX6_way_97 : decode cX6_way 97 = .ok (.bipush (-4), 2) := by decide +kernel
theorem dX6_way_99 : decode cX6_way 99 = .ok (.goto 17, 3) := by decide +kernel
theorem dX6_way_102 : decode cX6_way 102 = .ok (.iload_n 2, 1) := by decide +kernel
theorem dX6_way_103 : decode cX6_way 103 = .ok (.ifCond .ne 8, 3) := by decide +kernel
theorem dX6_way_106 : decode cX6_way 106 = .ok (.iload 4, 2) := by decide +kernel
theorem dX6_way_108 : decode cX6_way 108 = .ok (.goto 8, 3) := by decide +kernel
theorem dX6_way_111 : decode cX6_way 111 = .ok (.iload 5, 2) := by decide +kernel
theorem dX6_way_113 : decode cX6_way 113 = .ok (.bipush 100, 2) := by decide +kernel
theorem dX6_way_115 : decode cX6_way 115 = .ok (.iadd, 1) := by decide +kernel
theorem dX6_way_116 : decode cX6_way 116 = .ok (.ireturn, 1) := by decide +kernel
set_option maxRecDepth 20000 in
theorem ggX6_ear_X6_isDesk : GoodIn wsX6_ear wsX6_isDesk := goodIn_r _ [7, 1, 8, 9, 6, 10, 71, 72, 73, 74, 75, 76, 77, 78, 79, 80, 81, 82, 83, 84, 85] (by decide +kernel) (by decide +kernel)
set_option maxRecDepth 20000 in
theorem gX6_ear_X6_isDesk : GoodIn wsX6_ear (wsV RX6 95 RX6 yX6_isDesk wsX6_isDesk) := goodIn_app (goodIn_of _ (by decide +kernel)) ggX6_ear_X6_isDesk
set_option maxRecDepth 20000 in
theorem ggX6_ear_X6_in : GoodIn wsX6_ear wsX6_in := goodIn_r _ [10] (by decide +kernel) (by decide +kernel)
set_option maxRecDepth 20000 in
theorem gX6_ear_X6_in : GoodIn wsX6_ear (va_wsS RX6 58 yX6_in wsX6_in) := goodIn_app (goodIn_of _ (by decide +kernel)) ggX6_ear_X6_in
set_option maxRecDepth 20000 in
theorem ggX6_ear_X6_isWhom : GoodIn wsX6_ear wsX6_isWhom := goodIn_r _ [14, 3, 4, 5, 6, 7, 1, 8, 9, 10, 71, 72, 73, 74, 75, 76, 77, 78, 79, 80, 81, 82, 83, 84, 85] (by decide +kernel) (by decide +kernel)
set_option maxRecDepth 20000 in
theorem gX6_ear_X6_isWhom : GoodIn wsX6_ear (wsV RX6 162 RX6 yX6_isWhom wsX6_isWhom) := goodIn_app (goodIn_of _ (by decide +kernel)) ggX6_ear_X6_isWhom
set_option maxRecDepth 20000 in
theorem ggX6_ear_X6_lays : GoodIn wsX6_ear wsX6_lays := goodIn_r _ [18, 2, 71, 72, 73, 74, 75, 76, 77, 78, 79, 80, 81, 82, 83, 84, 85] (by decide +kernel) (by decide +kernel)
set_option maxRecDepth 20000 in
theorem gX6_ear_X6_lays : GoodIn wsX6_ear (wsV RX6 152 RX6 yX6_lays wsX6_lays) := goodIn_app (goodIn_of _ (by decide +kernel)) ggX6_ear_X6_lays
set_option maxRecDepth 20000 in
theorem ggX6_ear_X6_laysLeans : GoodIn wsX6_ear wsX6_laysLeans := goodIn_r _ [22, 23, 1, 24, 25, 71, 72, 73, 74, 75, 76, 77, 78, 79, 80, 81, 82, 83, 84, 85] (by decide +kernel) (by decide +kernel)
set_option maxRecDepth 20000 in
theorem gX6_ear_X6_laysLeans : GoodIn wsX6_ear (wsV RX6 155 RX6 yX6_laysLeans wsX6_laysLeans) := goodIn_app (goodIn_of _ (by decide +kernel)) ggX6_ear_X6_laysLeans
set_option maxRecDepth 20000 in
theorem ggX6_ear_X6_rounds : GoodIn wsX6_ear wsX6_rounds := goodIn_r _ [29, 30, 31, 32, 6, 33, 1, 34, 35, 36, 37, 38, 2, 23, 24, 39, 40, 41, 42, 43, 44, 45, 46, 47, 48, 49, 50, 51, 52, 53, 54, 25, 55, 56, 57, 58, 59, 60, 61, 62, 63, 64, 65, 66, 67, 71, 72, 73, 74, 75, 76, 77, 78, 79, 80, 81, 82, 83, 84, 85] (by decide +kernel) (by decide +kernel)
set_option maxRecDepth 20000 in
theorem gX6_ear_X6_rounds : GoodIn wsX6_ear (wsV RX6 177 RX6 yX6_rounds wsX6_rounds) := goodIn_app (goodIn_of _ (by decide +kernel)) ggX6_ear_X6_rounds
set_option maxRecDepth 20000 in
theorem ggX6_ear_X6_plain : GoodIn wsX6_ear wsX6_plain := goodIn_r _ [70] (by decide +kernel) (by decide +kernel)
set_option maxRecDepth 20000 in
theorem gX6_ear_X6_plain : GoodIn wsX6_ear (va_wsS RX6 143 yX6_plain wsX6_plain) := goodIn_app (goodIn_of _ (by decide +kernel)) ggX6_ear_X6_plain
theorem dX6_ear_0 : decode cX6_ear 0 = .ok (.aload_n 0, 1) := by decide +kernel
theorem dX6_ear_1 : decode cX6_ear 1 = .ok (.iload_n 1, 1) := by decide +kernel
theorem dX6_ear_2 : decode cX6_ear 2 = .ok (.invokevirtual 95, 3) := by decide +kernel
theorem dX6_ear_5 : decode cX6_ear 5 = .ok (.ifCond .eq 13, 3) := by decide +kernel
theorem dX6_ear_8 : decode cX6_ear 8 = .ok (.iload_n 2, 1) := by decide +kernel
theorem dX6_ear_9 : decode cX6_ear 9 = .ok (.i2l, 1) := by decide +kernel
theorem dX6_ear_10 : decode cX6_ear 10 = .ok (.lconst 0, 1) := by decide +kernel
theorem dX6_ear_11 : decode cX6_ear 11 = .ok (.lconst 1, 1) := by decide +kernel
theorem dX6_ear_12 : decode cX6_ear 12 = .ok (.invokestatic 58, 3) := by decide +kernel
theorem dX6_ear_15 : decode cX6_ear 15 = .ok (.ifCond .ne 5, 3) := by decide +kernel
theorem dX6_ear_18 : decode cX6_ear 18 = .ok (.iconst (-1), 1) := by decide +kernel
theorem dX6_ear_19 : decode cX6_ear 19 = .ok (.ireturn, 1) := by decide +kernel
theorem dX6_ear_20 : decode cX6_ear 20 = .ok (.aload_n 0, 1) := by decide +kernel
theorem dX6_ear_21 : decode cX6_ear 21 = .ok (.getfield 7, 3) := by decide +kernel
theorem dX6_ear_24 : decode cX6_ear 24 = .ok (.iconst 1, 1) := by decide +kernel
theorem dX6_ear_25 : decode cX6_ear 25 = .ok (.iload_n 1, 1) := by decide +kernel
theorem dX6_ear_26 : decode cX6_ear 26 = .ok (.iadd, 1) := by decide +kernel
theorem dX6_ear_27 : decode cX6_ear 27 = .ok (.iaload, 1) := by decide +kernel
theorem dX6_ear_28 : decode cX6_ear 28 = .ok (.iconst 2, 1) := by decide +kernel
theorem dX6_ear_29 : decode cX6_ear 29 = .ok (.if_icmp .ne 6, 3) := by decide +kernel
theorem dX6_ear_32 : decode cX6_ear 32 = .ok (.bipush (-2), 2) := by decide +kernel
theorem dX6_ear_34 : decode cX6_ear 34 = .ok (.ireturn, 1) := by decide +kernel
theorem dX6_ear_35 : decode cX6_ear 35 = .ok (.bipush (-4), 2) := by decide +kernel
theorem dX6_ear_37 : decode cX6_ear 37 = .ok (.istore_n 3, 1) := by decide +kernel
theorem dX6_ear_38 : decode cX6_ear 38 = .ok (.iconst 0, 1) := by decide +kernel
theorem dX6_ear_39 : decode cX6_ear 39 = .ok (.istore 4, 2) := by decide +kernel
theorem dX6_ear_41 : decode cX6_ear 41 = .ok (.iconst 0, 1) := by decide +kernel
theorem dX6_ear_42 : decode cX6_ear 42 = .ok (.istore 5, 2) := by decide +kernel
theorem dX6_ear_44 : decode cX6_ear 44 = .ok (.iload 5, 2) := by decide +kernel
theorem dX6_ear_46 : decode cX6_ear 46 = .ok (.bipush 9, 2) := by decide +kernel
theorem dX6_ear_48 : decode cX6_ear 48 = .ok (.if_icmp .gt 112, 3) := by decide +kernel
theorem dX6_ear_51 : decode cX6_ear 51 = .ok (.iload 5, 2) := by decide +kernel
theorem dX6_ear_53 : decode cX6_ear 53 = .ok (.bipush 8, 2) := by decide +kernel
theorem dX6_ear_55 : decode cX6_ear 55 = .ok (.if_icmp .eq 99, 3) := by decide +kernel
theorem dX6_ear_58 : decode cX6_ear 58 = .ok (.aload_n 0, 1) := by decide +kernel
theorem dX6_ear_59 : decode cX6_ear 59 = .ok (.iload_n 1, 1) := by decide +kernel
theorem dX6_ear_60 : decode cX6_ear 60 = .ok (.iload 5, 2) := by decide +kernel
theorem dX6_ear_62 : decode cX6_ear 62 = .ok (.invokevirtual 162, 3) := by decide +kernel
theorem dX6_ear_65 : decode cX6_ear 65 = .ok (.ifCond .eq 89, 3) := by decide +kernel
theorem dX6_ear_68 : decode cX6_ear 68 = .ok (.aload_n 0, 1) := by decide +kernel
theorem dX6_ear_69 : decode cX6_ear 69 = .ok (.invokevirtual 152, 3) := by decide +kernel
theorem dX6_ear_72 : decode cX6_ear 72 = .ok (.aload_n 0, 1) := by decide +kernel
theorem dX6_ear_73 : decode cX6_ear 73 = .ok (.invokevirtual 155, 3) := by decide +kernel
theorem dX6_ear_76 : decode cX6_ear 76 = .ok (.aload_n 0, 1) := by decide +kernel
theorem dX6_ear_77 : decode cX6_ear 77 = .ok (.getfield 13, 3) := by decide +kernel
theorem dX6_ear_80 : decode cX6_ear 80 = .ok (.sipush 208, 3) := by decide +kernel
theorem dX6_ear_83 : decode cX6_ear 83 = .ok (.iload_n 1, 1) := by decide +kernel
theorem dX6_ear_84 : decode cX6_ear 84 = .ok (.iadd, 1) := by decide +kernel
theorem dX6_ear_85 : decode cX6_ear 85 = .ok (.iload 5, 2) := by decide +kernel
theorem dX6_ear_87 : decode cX6_ear 87 = .ok (.iastore, 1) := by decide +kernel
theorem dX6_ear_88 : decode cX6_ear 88 = .ok (.aload_n 0, 1) := by decide +kernel
theorem dX6_ear_89 : decode cX6_ear 89 = .ok (.invokevirtual 177, 3) := by decide +kernel
theorem dX6_ear_92 : decode cX6_ear 92 = .ok (.pop, 1) := by decide +kernel
theorem dX6_ear_93 : decode cX6_ear 93 = .ok (.aload_n 0, 1) := by decide +kernel
theorem dX6_ear_94 : decode cX6_ear 94 = .ok (.getfield 13, 3) := by decide +kernel
theorem dX6_ear_97 : decode cX6_ear 97 = .ok (.sipush 198, 3) := by decide +kernel
theorem dX6_ear_100 : decode cX6_ear 100 = .ok (.iload_n 1, 1) := by decide +kernel
theorem dX6_ear_101 : decode cX6_ear 101 = .ok (.iadd, 1) := by decide +kernel
theorem dX6_ear_102 : decode cX6_ear 102 = .ok (.iaload, 1) := by decide +kernel
theorem dX6_ear_103 : decode cX6_ear 103 = .ok (.invokestatic 143, 3) := by decide +kernel
theorem dX6_ear_106 : decode cX6_ear 106 = .ok (.istore 6, 2) := by decide +kernel
theorem dX6_ear_108 : decode cX6_ear 108 = .ok (.iload_n 3, 1) := by decide +kernel
theorem dX6_ear_109 : decode cX6_ear 109 = .ok (.bipush (-4), 2) := by decide +kernel
theorem dX6_ear_111 : decode cX6_ear 111 = .ok (.if_icmp .eq 10, 3) := by decide +kernel
theorem dX6_ear_114 : decode cX6_ear 114 = .ok (.iload 6, 2) := by decide +kernel
theorem dX6_ear_116 : decode cX6_ear 116 = .ok (.iload 4, 2) := by decide +kernel
theorem dX6_ear_118 : decode cX6_ear 118 = .ok (.if_icmp .ge 7, 3) := by decide +kernel
theorem dX6_ear_121 : decode cX6_ear 121 = .ok (.iconst 1, 1) := by decide +kernel
theorem dX6_ear_122 : decode cX6_ear 122 = .ok (.goto 4, 3) := by decide +kernel
theorem dX6_ear_125 : decode cX6_ear 125 = .ok (.iconst 0, 1) := by decide +kernel
theorem dX6_ear_126 : decode cX6_ear 126 = .ok (.istore 7, 2) := by decide +kernel
theorem dX6_ear_128 : decode cX6_ear 128 = .ok (.iload 7, 2) := by decide +kernel
theorem dX6_ear_130 : decode cX6_ear 130 = .ok (.ifCond .eq 8, 3) := by decide +kernel
theorem dX6_ear_133 : decode cX6_ear 133 = .ok (.iload 5, 2) := by decide +kernel
theorem dX6_ear_135 : decode cX6_ear 135 = .ok (.goto 4, 3) := by decide +kernel
theorem dX6_ear_138 : decode cX6_ear 138 = .ok (.iload_n 3, 1) := by decide +kernel
theorem dX6_ear_139 : decode cX6_ear 139 = .ok (.istore_n 3, 1) := by decide +kernel
theorem dX6_ear_140 : decode cX6_ear 140 = .ok (.iload 7, 2) := by decide +kernel
theorem dX6_ear_142 : decode cX6_ear 142 = .ok (.ifCond .eq 8, 3) := by decide +kernel
theorem dX6_ear_145 : decode cX6_ear 145 = .ok (.iload 6, 2) := by decide +kernel
theorem dX6_ear_147 : decode cX6_ear 147 = .ok (.goto 5, 3) := by decide +kernel
theorem dX6_ear_150 : decode cX6_ear 150 = .ok (.iload 4, 2) := by decide +kernel
theorem dX6_ear_152 : decode cX6_ear 152 = .ok (.istore 4, 2) := by decide +kernel
theorem dX6_ear_154 : decode cX6_ear 154 = .ok (.iinc 5 1, 3) := by decide +kernel
theorem dX6_ear_157 : decode cX6_ear 157 = .ok (.goto (-113), 3) := by decide +kernel
theorem dX6_ear_160 : decode cX6_ear 160 = .ok (.iload_n 2, 1) := by decide +kernel
theorem dX6_ear_161 : decode cX6_ear 161 = .ok (.ifCond .ne 7, 3) := by decide +kernel
theorem dX6_ear_164 : decode cX6_ear 164 = .ok (.iload_n 3, 1) := by decide +kernel
theorem dX6_ear_165 : decode cX6_ear 165 = .ok (.goto 5, 3) := by decide +kernel
theorem dX6_ear_168 : decode cX6_ear 168 = .ok (.iload 4, 2) := by decide +kernel
theorem dX6_ear_170 : decode cX6_ear 170 = .ok (.ireturn, 1) := by decide +kernel
set_option maxRecDepth 20000 in
theorem ggX6_again_X6_lays : GoodIn wsX6_again wsX6_lays := goodIn_r _ [6, 7, 23, 24, 25, 26, 27, 28, 29, 30, 31, 32, 33, 34, 35, 36, 37] (by decide +kernel) (by decide +kernel)
set_option maxRecDepth 20000 in
theorem gX6_again_X6_lays : GoodIn wsX6_again (wsV RX6 152 RX6 yX6_lays wsX6_lays) := goodIn_app (goodIn_of _ (by decide +kernel)) ggX6_again_X6_lays
set_option maxRecDepth 20000 in
theorem ggX6_again_X6_spreadOf : GoodIn wsX6_again wsX6_spreadOf := goodIn_r _ [11, 7, 1, 23, 24, 25, 26, 27, 28, 29, 30, 31, 32, 33, 34, 35, 36, 37] (by decide +kernel) (by decide +kernel)
set_option maxRecDepth 20000 in
theorem gX6_again_X6_spreadOf : GoodIn wsX6_again (wsV RX6 165 RX6 yX6_spreadOf wsX6_spreadOf) := goodIn_app (goodIn_of _ (by decide +kernel)) ggX6_again_X6_spreadOf
set_option maxRecDepth 20000 in
theorem ggX6_again_X6_passes : GoodIn wsX6_again wsX6_passes := goodIn_r _ [15, 7, 1, 16, 17, 18, 5, 19, 20, 21, 22, 23, 24, 25, 26, 27, 28, 29, 30, 31, 32, 33, 34, 35, 36, 37] (by decide +kernel) (by decide +kernel)
set_option maxRecDepth 20000 in
theorem gX6_again_X6_passes : GoodIn wsX6_again (wsV RX6 134 RX6 yX6_passes wsX6_passes) := goodIn_app (goodIn_of _ (by decide +kernel)) ggX6_again_X6_passes
theorem dX6_again_0 : decode cX6_again 0 = .ok (.aload_n 0, 1) := by decide +kernel
theorem dX6_again_1 : decode cX6_again 1 = .ok (.invokevirtual 152, 3) := by decide +kernel
theorem dX6_again_4 : decode cX6_again 4 = .ok (.iconst 0, 1) := by decide +kernel
theorem dX6_again_5 : decode cX6_again 5 = .ok (.istore_n 1, 1) := by decide +kernel
theorem dX6_again_6 : decode cX6_again 6 = .ok (.iload_n 1, 1) := by decide +kernel
theorem dX6_again_7 : decode cX6_again 7 = .ok (.bipush 100, 2) := by decide +kernel
theorem dX6_again_9 : decode cX6_again 9 = .ok (.if_icmp .ge 34, 3) := by decide +kernel
theorem dX6_again_12 : decode cX6_again 12 = .ok (.aload_n 0, 1) := by decide +kernel
theorem dX6_again_13 : decode cX6_again 13 = .ok (.sipush 198, 3) := by decide +kernel
theorem dX6_again_16 : decode cX6_again 16 = .ok (.invokevirtual 165, 3) := by decide +kernel
theorem dX6_again_19 : decode cX6_again 19 = .ok (.aload_n 0, 1) := by decide +kernel
theorem dX6_again_20 : decode cX6_again 20 = .ok (.getfield 7, 3) := by decide +kernel
theorem dX6_again_23 : decode cX6_again 23 = .ok (.bipush 52, 2) := by decide +kernel
theorem dX6_again_25 : decode cX6_again 25 = .ok (.iaload, 1) := by decide +kernel
theorem dX6_again_26 : decode cX6_again 26 = .ok (.if_icmp .le 5, 3) := by decide +kernel
theorem dX6_again_29 : decode cX6_again 29 = .ok (.iload_n 1, 1) := by decide +kernel
theorem dX6_again_30 : decode cX6_again 30 = .ok (.ireturn, 1) := by decide +kernel
theorem dX6_again_31 : decode cX6_again 31 = .ok (.aload_n 0, 1) := by decide +kernel
theorem dX6_again_32 : decode cX6_again 32 = .ok (.bipush 60, 2) := by decide +kernel
theorem dX6_again_34 : decode cX6_again 34 = .ok (.invokevirtual 134, 3) := by decide +kernel
theorem dX6_again_37 : decode cX6_again 37 = .ok (.iinc 1 1, 3) := by decide +kernel
theorem dX6_again_40 : decode cX6_again 40 = .ok (.goto (-34), 3) := by decide +kernel
theorem dX6_again_43 : decode cX6_again 43 = .ok (.bipush (-4), 2) := by decide +kernel
theorem dX6_again_45 : decode cX6_again 45 = .ok (.ireturn, 1) := by decide +kernel
set_option maxRecDepth 20000 in
theorem ggX6_needles_X6_in : GoodIn wsX6_needles wsX6_in := goodIn_r _ [7] (by decide +kernel) (by decide +kernel)
set_option maxRecDepth 20000 in
theorem gX6_needles_X6_in : GoodIn wsX6_needles (va_wsS RX6 58 yX6_in wsX6_in) := goodIn_app (goodIn_of _ (by decide +kernel)) ggX6_needles_X6_in
set_option maxRecDepth 20000 in
theorem ggX6_needles_X6_ones : GoodIn wsX6_needles wsX6_ones := goodIn_r _ [10] (by decide +kernel) (by decide +kernel)
set_option maxRecDepth 20000 in
theorem gX6_needles_X6_ones : GoodIn wsX6_needles (va_wsS RX6 128 yX6_ones wsX6_ones) := goodIn_app (goodIn_of _ (by decide +kernel)) ggX6_needles_X6_ones
set_option maxRecDepth 20000 in
theorem ggX6_needles_X6_open : GoodIn wsX6_needles wsX6_open := goodIn_r _ [14, 2, 15, 16, 6, 17, 64, 65, 66, 67, 68, 69, 70, 71, 72, 73, 74, 75, 76, 77, 78] (by decide +kernel) (by decide +kernel)
set_option maxRecDepth 20000 in
theorem gX6_needles_X6_open : GoodIn wsX6_needles (wsV RX6 125 RX6 yX6_open wsX6_open) := goodIn_app (goodIn_of _ (by decide +kernel)) ggX6_needles_X6_open
set_option maxRecDepth 20000 in
theorem ggX6_needles_X6_lays : GoodIn wsX6_needles wsX6_lays := goodIn_r _ [21, 3, 64, 65, 66, 67, 68, 69, 70, 71, 72, 73, 74, 75, 76, 77, 78] (by decide +kernel) (by decide +kernel)
set_option maxRecDepth 20000 in
theorem gX6_needles_X6_lays : GoodIn wsX6_needles (wsV RX6 152 RX6 yX6_lays wsX6_lays) := goodIn_app (goodIn_of _ (by decide +kernel)) ggX6_needles_X6_lays
set_option maxRecDepth 20000 in
theorem ggX6_needles_X6_laysLeans : GoodIn wsX6_needles wsX6_laysLeans := goodIn_r _ [25, 26, 2, 27, 28, 64, 65, 66, 67, 68, 69, 70, 71, 72, 73, 74, 75, 76, 77, 78] (by decide +kernel) (by decide +kernel)
set_option maxRecDepth 20000 in
theorem gX6_needles_X6_laysLeans : GoodIn wsX6_needles (wsV RX6 155 RX6 yX6_laysLeans wsX6_laysLeans) := goodIn_app (goodIn_of _ (by decide +kernel)) ggX6_needles_X6_laysLeans
set_option maxRecDepth 20000 in
theorem ggX6_needles_X6_has : GoodIn wsX6_needles wsX6_has := goodIn_r _ [17] (by decide +kernel) (by decide +kernel)
set_option maxRecDepth 20000 in
theorem gX6_needles_X6_has : GoodIn wsX6_needles (va_wsS RX6 121 yX6_has wsX6_has) := goodIn_app (goodIn_of _ (by decide +kernel)) ggX6_needles_X6_has
set_option maxRecDepth 20000 in
theorem ggX6_needles_X6_rounds : GoodIn wsX6_needles wsX6_rounds := goodIn_r _ [32, 33, 34, 35, 6, 36, 2, 37, 38, 39, 40, 41, 3, 26, 27, 11, 12, 13, 14, 15, 16, 17, 8, 9, 10, 42, 43, 44, 45, 46, 47, 28, 48, 1, 49, 50, 51, 52, 53, 54, 55, 56, 57, 58, 59, 64, 65, 66, 67, 68, 69, 70, 71, 72, 73, 74, 75, 76, 77, 78] (by decide +kernel) (by decide +kernel)
set_option maxRecDepth 20000 in
theorem gX6_needles_X6_rounds : GoodIn wsX6_needles (wsV RX6 177 RX6 yX6_rounds wsX6_rounds) := goodIn_app (goodIn_of _ (by decide +kernel)) ggX6_needles_X6_rounds
set_option maxRecDepth 20000 in
theorem ggX6_needles_X6_spreadOf : GoodIn wsX6_needles wsX6_spreadOf := goodIn_r _ [63, 3, 2, 64, 65, 66, 67, 68, 69, 70, 71, 72, 73, 74, 75, 76, 77, 78] (by decide +kernel) (by decide +kernel)
set_option maxRecDepth 20000 in
theorem gX6_needles_X6_spreadOf : GoodIn wsX6_needles (wsV RX6 165 RX6 yX6_spreadOf wsX6_spreadOf) := goodIn_app (goodIn_of _ (by decide +kernel)) ggX6_needles_X6_spreadOf
theorem dX6_needles_0 : decode cX6_needles 0 = .ok (.iload_n 1, 1) := by decide +kernel
theorem dX6_needles_1 : decode cX6_needles 1 = .ok (.i2l, 1) := by decide +kernel
theorem dX6_needles_2 : decode cX6_needles 2 = .ok (.lconst 0, 1) := by decide +kernel
theorem dX6_needles_3 : decode cX6_needles 3 = .ok (.ldc2_w 112, 3) := by decide +kernel
theorem dX6_needles_6 : decode cX6_needles 6 = .ok (.invokestatic 58, 3) := by decide +kernel
theorem dX6_needles_9 : decode cX6_needles 9 = .ok (.ifCond .eq 13, 3) := by decide +kernel
theorem dX6_needles_12 : decode cX6_needles 12 = .ok (.iload_n 2, 1) := by decide +kernel
theorem dX6_needles_13 : decode cX6_needles 13 = .ok (.i2l, 1) := by decide +kernel
theorem dX6_needles_14 : decode cX6_needles 14 = .ok (.lconst 0, 1) := by decide +kernel
theorem dX6_needles_15 : decode cX6_needles 15 = .ok (.lconst 1, 1) := by decide +kernel
theorem dX6_needles_16 : decode cX6_needles 16 = .ok (.invokestatic 58, 3) := by decide +kernel
theorem dX6_needles_19 : decode cX6_needles 19 = .ok (.ifCond .ne 5, 3) := by decide +kernel
theorem dX6_needles_22 : decode cX6_needles 22 = .ok (.iconst (-1), 1) := by decide +kernel
theorem dX6_needles_23 : decode cX6_needles 23 = .ok (.ireturn, 1) := by decide +kernel
theorem dX6_needles_24 : decode cX6_needles 24 = .ok (.bipush (-4), 2) := by decide +kernel
theorem dX6_needles_26 : decode cX6_needles 26 = .ok (.istore_n 3, 1) := by decide +kernel
theorem dX6_needles_27 : decode cX6_needles 27 = .ok (.bipush (-4), 2) := by decide +kernel
theorem dX6_needles_29 : decode cX6_needles 29 = .ok (.istore 4, 2) := by decide +kernel
theorem dX6_needles_31 : decode cX6_needles 31 = .ok (.iconst 0, 1) := by decide +kernel
theorem dX6_needles_32 : decode cX6_needles 32 = .ok (.istore 5, 2) := by decide +kernel
theorem dX6_needles_34 : decode cX6_needles 34 = .ok (.iload 5, 2) := by decide +kernel
theorem dX6_needles_36 : decode cX6_needles 36 = .ok (.iconst 1, 1) := by decide +kernel
theorem dX6_needles_37 : decode cX6_needles 37 = .ok (.aload_n 0, 1) := by decide +kernel
theorem dX6_needles_38 : decode cX6_needles 38 = .ok (.getfield 7, 3) := by decide +kernel
theorem dX6_needles_41 : decode cX6_needles 41 = .ok (.iconst 0, 1) := by decide +kernel
theorem dX6_needles_42 : decode cX6_needles 42 = .ok (.iaload, 1) := by decide +kernel
theorem dX6_needles_43 : decode cX6_needles 43 = .ok (.ishl, 1) := by decide +kernel
theorem dX6_needles_44 : decode cX6_needles 44 = .ok (.if_icmp .ge 154, 3) := by decide +kernel
theorem dX6_needles_47 : decode cX6_needles 47 = .ok (.iload 5, 2) := by decide +kernel
theorem dX6_needles_49 : decode cX6_needles 49 = .ok (.invokestatic 128, 3) := by decide +kernel
theorem dX6_needles_52 : decode cX6_needles 52 = .ok (.iload_n 1, 1) := by decide +kernel
theorem dX6_needles_53 : decode cX6_needles 53 = .ok (.if_icmp .ne 139, 3) := by decide +kernel
theorem dX6_needles_56 : decode cX6_needles 56 = .ok (.aload_n 0, 1) := by decide +kernel
theorem dX6_needles_57 : decode cX6_needles 57 = .ok (.iload 5, 2) := by decide +kernel
theorem dX6_needles_59 : decode cX6_needles 59 = .ok (.invokevirtual 125, 3) := by decide +kernel
theorem dX6_needles_62 : decode cX6_needles 62 = .ok (.iload 5, 2) := by decide +kernel
theorem dX6_needles_64 : decode cX6_needles 64 = .ok (.if_icmp .ne 128, 3) := by decide +kernel
theorem dX6_needles_67 : decode cX6_needles 67 = .ok (.aload_n 0, 1) := by decide +kernel
theorem dX6_needles_68 : decode cX6_needles 68 = .ok (.invokevirtual 152, 3) := by decide +kernel
theorem dX6_needles_71 : decode cX6_needles 71 = .ok (.aload_n 0, 1) := by decide +kernel
theorem dX6_needles_72 : decode cX6_needles 72 = .ok (.invokevirtual 155, 3) := by decide +kernel
theorem dX6_needles_75 : decode cX6_needles 75 = .ok (.iconst 0, 1) := by decide +kernel
theorem dX6_needles_76 : decode cX6_needles 76 = .ok (.istore 6, 2) := by decide +kernel
theorem dX6_needles_78 : decode cX6_needles 78 = .ok (.iload 6, 2) := by decide +kernel
theorem dX6_needles_80 : decode cX6_needles 80 = .ok (.aload_n 0, 1) := by decide +kernel
theorem dX6_needles_81 : decode cX6_needles 81 = .ok (.getfield 7, 3) := by decide +kernel
theorem dX6_needles_84 : decode cX6_needles 84 = .ok (.iconst 0, 1) := by decide +kernel
theorem dX6_needles_85 : decode cX6_needles 85 = .ok (.iaload, 1) := by decide +kernel
theorem dX6_needles_86 : decode cX6_needles 86 = .ok (.if_icmp .ge 46, 3) := by decide +kernel
theorem dX6_needles_89 : decode cX6_needles 89 = .ok (.aload_n 0, 1) := by decide +kernel
theorem dX6_needles_90 : decode cX6_needles 90 = .ok (.getfield 13, 3) := by decide +kernel
theorem dX6_needles_93 : decode cX6_needles 93 = .ok (.sipush 208, 3) := by decide +kernel
theorem dX6_needles_96 : decode cX6_needles 96 = .ok (.iload 6, 2) := by decide +kernel
theorem dX6_needles_98 : decode cX6_needles 98 = .ok (.iadd, 1) := by decide +kernel
theorem dX6_needles_99 : decode cX6_needles 99 = .ok (.iload 5, 2) := by decide +kernel
theorem dX6_needles_101 : decode cX6_needles 101 = .ok (.iload 6, 2) := by decide +kernel
theorem dX6_needles_103 : decode cX6_needles 103 = .ok (.invokestatic 121, 3) := by decide +kernel
theorem dX6_needles_106 : decode cX6_needles 106 = .ok (.ifCond .eq 8, 3) := by decide +kernel
theorem dX6_needles_109 : decode cX6_needles 109 = .ok (.bipush 8, 2) := by decide +kernel
theorem dX6_needles_111 : decode cX6_needles 111 = .ok (.goto 14, 3) := by decide +kernel
theorem dX6_needles_114 : decode cX6_needles 114 = .ok (.aload_n 0, 1) := by decide +kernel
theorem dX6_needles_115 : decode cX6_needles 115 = .ok (.getfield 13, 3) := by decide +kernel
theorem dX6_needles_118 : decode cX6_needles 118 = .ok (.sipush 208, 3) := by decide +kernel
theorem dX6_needles_121 : decode cX6_needles 121 = .ok (.iload 6, 2) := by decide +kernel
theorem dX6_needles_123 : decode cX6_needles 123 = .ok (.iadd, 1) := by decide +kernel
theorem dX6_needles_124 : decode cX6_needles 124 = .ok (.iaload, 1) := by decide +kernel
theorem dX6_needles_125 : decode cX6_needles 125 = .ok (.iastore, 1) := by decide +kernel
theorem dX6_needles_126 : decode cX6_needles 126 = .ok (.iinc 6 1, 3) := by decide +kernel
theorem dX6_needles_129 : decode cX6_needles 129 = .ok (.goto (-51), 3) := by decide +kernel
theorem dX6_needles_132 : decode cX6_needles 132 = .ok (.aload_n 0, 1) := by decide +kernel
theorem dX6_needles_133 : decode cX6_needles 133 = .ok (.invokevirtual 177, 3) := by decide +kernel
theorem dX6_needles_136 : decode cX6_needles 136 = .ok (.pop, 1) := by decide +kernel
theorem dX6_needles_137 : decode cX6_needles 137 = .ok (.aload_n 0, 1) := by decide +kernel
theorem dX6_needles_138 : decode cX6_needles 138 = .ok (.sipush 198, 3) := by decide +kernel
theorem dX6_needles_141 : decode cX6_needles 141 = .ok (.invokevirtual 165, 3) := by decide +kernel
theorem dX6_needles_144 : decode cX6_needles 144 = .ok (.istore 6, 2) := by decide +kernel
theorem dX6_needles_146 : decode cX6_needles 146 = .ok (.iload_n 3, 1) := by decide +kernel
theorem dX6_needles_147 : decode cX6_needles 147 = .ok (.bipush (-4), 2) := by decide +kernel
theorem dX6_needles_149 : decode cX6_needles 149 = .ok (.if_icmp .eq 10, 3) := by decide +kernel
theorem dX6_needles_152 : decode cX6_needles 152 = .ok (.iload 6, 2) := by decide +kernel
theorem dX6_needles_154 : decode cX6_needles 154 = .ok (.iload 4, 2) := by decide +kernel
theorem dX6_needles_156 : decode cX6_needles 156 = .ok (.if_icmp .ge 7, 3) := by decide +kernel
theorem dX6_needles_159 : decode cX6_needles 159 = .ok (.iconst 1, 1) := by decide +kernel
theorem dX6_needles_160 : decode cX6_needles 160 = .ok (.goto 4, 3) := by decide +kernel
theorem dX6_needles_163 : decode cX6_needles 163 = .ok (.iconst 0, 1) := by decide +kernel
theorem dX6_needles_164 : decode cX6_needles 164 = .ok (.istore 7, 2) := by decide +kernel
theorem dX6_needles_166 : decode cX6_needles 166 = .ok (.iload 7, 2) := by decide +kernel
theorem dX6_needles_168 : decode cX6_needles 168 = .ok (.ifCond .eq 8, 3) := by decide +kernel
theorem dX6_needles_171 : decode cX6_needles 171 = .ok (.iload 5, 2) := by decide +kernel
theorem dX6_needles_173 : decode cX6_needles 173 = .ok (.goto 4, 3) := by decide +kernel
theorem dX6_needles_176 : decode cX6_needles 176 = .ok (.iload_n 3, 1) := by decide +kernel
theorem dX6_needles_177 : decode cX6_needles 177 = .ok (.istore_n 3, 1) := by decide +kernel
theorem dX6_needles_178 : decode cX6_needles 178 = .ok (.iload 7, 2) := by decide +kernel
theorem dX6_needles_180 : decode cX6_needles 180 = .ok (.ifCond .eq 8, 3) := by decide +kernel
theorem dX6_needles_183 : decode cX6_needles 183 = .ok (.iload 6, 2) := by decide +kernel
theorem dX6_needles_185 : decode cX6_needles 185 = .ok (.goto 5, 3) := by decide +kernel
theorem dX6_needles_188 : decode cX6_needles 188 = .ok (.iload 4, 2) := by decide +kernel
theorem dX6_needles_190 : decode cX6_needles 190 = .ok (.istore 4, 2) := by decide +kernel
theorem dX6_needles_192 : decode cX6_needles 192 = .ok (.iinc 5 1, 3) := by decide +kernel
theorem dX6_needles_195 : decode cX6_needles 195 = .ok (.goto (-161), 3) := by decide +kernel
theorem dX6_needles_198 : decode cX6_needles 198 = .ok (.iload_n 2, 1) := by decide +kernel
theorem dX6_needles_199 : decode cX6_needles 199 = .ok (.ifCond .ne 7, 3) := by decide +kernel
theorem dX6_needles_202 : decode cX6_needles 202 = .ok (.iload_n 3, 1) := by decide +kernel
theorem dX6_needles_203 : decode cX6_needles 203 = .ok (.goto 5, 3) := by decide +kernel
theorem dX6_needles_206 : decode cX6_needles 206 = .ok (.iload 4, 2) := by decide +kernel
theorem dX6_needles_208 : decode cX6_needles 208 = .ok (.ireturn, 1) := by decide +kernel
set_option maxRecDepth 20000 in
theorem ggX6_blame_X6_in : GoodIn wsX6_blame wsX6_in := goodIn_r _ [6] (by decide +kernel) (by decide +kernel)
set_option maxRecDepth 20000 in
theorem gX6_blame_X6_in : GoodIn wsX6_blame (va_wsS RX6 58 yX6_in wsX6_in) := goodIn_app (goodIn_of _ (by decide +kernel)) ggX6_blame_X6_in
set_option maxRecDepth 20000 in
theorem ggX6_blame_X6_lays : GoodIn wsX6_blame wsX6_lays := goodIn_r _ [10, 11, 64, 65, 66, 67, 68, 69, 70, 71, 72, 73, 74, 75, 76, 77, 78] (by decide +kernel) (by decide +kernel)
set_option maxRecDepth 20000 in
theorem gX6_blame_X6_lays : GoodIn wsX6_blame (wsV RX6 152 RX6 yX6_lays wsX6_lays) := goodIn_app (goodIn_of _ (by decide +kernel)) ggX6_blame_X6_lays
set_option maxRecDepth 20000 in
theorem ggX6_blame_X6_laysLeans : GoodIn wsX6_blame wsX6_laysLeans := goodIn_r _ [15, 2, 1, 16, 17, 64, 65, 66, 67, 68, 69, 70, 71, 72, 73, 74, 75, 76, 77, 78] (by decide +kernel) (by decide +kernel)
set_option maxRecDepth 20000 in
theorem gX6_blame_X6_laysLeans : GoodIn wsX6_blame (wsV RX6 155 RX6 yX6_laysLeans wsX6_laysLeans) := goodIn_app (goodIn_of _ (by decide +kernel)) ggX6_blame_X6_laysLeans
set_option maxRecDepth 20000 in
theorem ggX6_blame_X6_rounds : GoodIn wsX6_blame wsX6_rounds := goodIn_r _ [21, 22, 23, 24, 5, 25, 1, 26, 27, 28, 29, 30, 11, 2, 16, 31, 32, 33, 34, 35, 36, 37, 38, 39, 40, 41, 42, 43, 44, 45, 46, 17, 47, 48, 49, 50, 51, 52, 53, 54, 55, 56, 57, 58, 59, 64, 65, 66, 67, 68, 69, 70, 71, 72, 73, 74, 75, 76, 77, 78] (by decide +kernel) (by decide +kernel)
set_option maxRecDepth 20000 in
theorem gX6_blame_X6_rounds : GoodIn wsX6_blame (wsV RX6 177 RX6 yX6_rounds wsX6_rounds) := goodIn_app (goodIn_of _ (by decide +kernel)) ggX6_blame_X6_rounds
set_option maxRecDepth 20000 in
theorem ggX6_blame_X6_spreadOf : GoodIn wsX6_blame wsX6_spreadOf := goodIn_r _ [63, 11, 1, 64, 65, 66, 67, 68, 69, 70, 71, 72, 73, 74, 75, 76, 77, 78] (by decide +kernel) (by decide +kernel)
set_option maxRecDepth 20000 in
theorem gX6_blame_X6_spreadOf : GoodIn wsX6_blame (wsV RX6 165 RX6 yX6_spreadOf wsX6_spreadOf) := goodIn_app (goodIn_of _ (by decide +kernel)) ggX6_blame_X6_spreadOf
theorem dX6_blame_0 : decode cX6_blame 0 = .ok (.iload_n 1, 1) := by decide +kernel
theorem dX6_blame_1 : decode cX6_blame 1 = .ok (.i2l, 1) := by decide +kernel
theorem dX6_blame_2 : decode cX6_blame 2 = .ok (.lconst 0, 1) := by decide +kernel
theorem dX6_blame_3 : decode cX6_blame 3 = .ok (.lconst 1, 1) := by decide +kernel
theorem dX6_blame_4 : decode cX6_blame 4 = .ok (.invokestatic 58, 3) := by decide +kernel
theorem dX6_blame_7 : decode cX6_blame 7 = .ok (.ifCond .ne 5, 3) := by decide +kernel
theorem dX6_blame_10 : decode cX6_blame 10 = .ok (.iconst (-1), 1) := by decide +kernel
theorem dX6_blame_11 : decode cX6_blame 11 = .ok (.ireturn, 1) := by decide +kernel
theorem dX6_blame_12 : decode cX6_blame 12 = .ok (.bipush (-4), 2) := by decide +kernel
theorem dX6_blame_14 : decode cX6_blame 14 = .ok (.istore_n 2, 1) := by decide +kernel
theorem dX6_blame_15 : decode cX6_blame 15 = .ok (.iconst 0, 1) := by decide +kernel
theorem dX6_blame_16 : decode cX6_blame 16 = .ok (.istore_n 3, 1) := by decide +kernel
theorem dX6_blame_17 : decode cX6_blame 17 = .ok (.iconst 0, 1) := by decide +kernel
theorem dX6_blame_18 : decode cX6_blame 18 = .ok (.istore 4, 2) := by decide +kernel
theorem dX6_blame_20 : decode cX6_blame 20 = .ok (.iload 4, 2) := by decide +kernel
theorem dX6_blame_22 : decode cX6_blame 22 = .ok (.aload_n 0, 1) := by decide +kernel
theorem dX6_blame_23 : decode cX6_blame 23 = .ok (.getfield 7, 3) := by decide +kernel
theorem dX6_blame_26 : decode cX6_blame 26 = .ok (.iconst 0, 1) := by decide +kernel
theorem dX6_blame_27 : decode cX6_blame 27 = .ok (.iaload, 1) := by decide +kernel
theorem dX6_blame_28 : decode cX6_blame 28 = .ok (.if_icmp .ge 82, 3) := by decide +kernel
theorem dX6_blame_31 : decode cX6_blame 31 = .ok (.aload_n 0, 1) := by decide +kernel
theorem dX6_blame_32 : decode cX6_blame 32 = .ok (.invokevirtual 152, 3) := by decide +kernel
theorem dX6_blame_35 : decode cX6_blame 35 = .ok (.aload_n 0, 1) := by decide +kernel
theorem dX6_blame_36 : decode cX6_blame 36 = .ok (.invokevirtual 155, 3) := by decide +kernel
theorem dX6_blame_39 : decode cX6_blame 39 = .ok (.aload_n 0, 1) := by decide +kernel
theorem dX6_blame_40 : decode cX6_blame 40 = .ok (.getfield 25, 3) := by decide +kernel
theorem dX6_blame_43 : decode cX6_blame 43 = .ok (.iload 4, 2) := by decide +kernel
theorem dX6_blame_45 : decode cX6_blame 45 = .ok (.iconst 0, 1) := by decide +kernel
theorem dX6_blame_46 : decode cX6_blame 46 = .ok (.iastore, 1) := by decide +kernel
theorem dX6_blame_47 : decode cX6_blame 47 = .ok (.aload_n 0, 1) := by decide +kernel
theorem dX6_blame_48 : decode cX6_blame 48 = .ok (.invokevirtual 177, 3) := by decide +kernel
theorem dX6_blame_51 : decode cX6_blame 51 = .ok (.pop, 1) := by decide +kernel
theorem dX6_blame_52 : decode cX6_blame 52 = .ok (.aload_n 0, 1) := by decide +kernel
theorem dX6_blame_53 : decode cX6_blame 53 = .ok (.sipush 198, 3) := by decide +kernel
theorem dX6_blame_56 : decode cX6_blame 56 = .ok (.invokevirtual 165, 3) := by decide +kernel
theorem dX6_blame_59 : decode cX6_blame 59 = .ok (.istore 5, 2) := by decide +kernel
theorem dX6_blame_61 : decode cX6_blame 61 = .ok (.iload_n 2, 1) := by decide +kernel
theorem dX6_blame_62 : decode cX6_blame 62 = .ok (.bipush (-4), 2) := by decide +kernel
theorem dX6_blame_64 : decode cX6_blame 64 = .ok (.if_icmp .eq 9, 3) := by decide +kernel
theorem dX6_blame_67 : decode cX6_blame 67 = .ok (.iload 5, 2) := by decide +kernel
theorem dX6_blame_69 : decode cX6_blame 69 = .ok (.iload_n 3, 1) := by decide +kernel
theorem dX6_blame_70 : decode cX6_blame 70 = .ok (.if_icmp .ge 7, 3) := by decide +kernel
theorem dX6_blame_73 : decode cX6_blame 73 = .ok (.iconst 1, 1) := by decide +kernel
theorem dX6_blame_74 : decode cX6_blame 74 = .ok (.goto 4, 3) := by decide +kernel
theorem dX6_blame_77 : decode cX6_blame 77 = .ok (.iconst 0, 1) := by decide +kernel
theorem dX6_blame_78 : decode cX6_blame 78 = .ok (.istore 6, 2) := by decide +kernel
theorem dX6_blame_80 : decode cX6_blame 80 = .ok (.iload 6, 2) := by decide +kernel
theorem dX6_blame_82 : decode cX6_blame 82 = .ok (.ifCond .eq 8, 3) := by decide +kernel
theorem dX6_blame_85 : decode cX6_blame 85 = .ok (.iload 4, 2) := by decide +kernel
theorem dX6_blame_87 : decode cX6_blame 87 = .ok (.goto 4, 3) := by decide +kernel
theorem dX6_blame_90 : decode cX6_blame 90 = .ok (.iload_n 2, 1) := by decide +kernel
theorem dX6_blame_91 : decode cX6_blame 91 = .ok (.istore_n 2, 1) := by decide +kernel
theorem dX6_blame_92 : decode cX6_blame 92 = .ok (.iload 6, 2) := by decide +kernel
theorem dX6_blame_94 : decode cX6_blame 94 = .ok (.ifCond .eq 8, 3) := by decide +kernel
theorem dX6_blame_97 : decode cX6_blame 97 = .ok (.iload 5, 2) := by decide +kernel
theorem dX6_blame_99 : decode cX6_blame 99 = .ok (.goto 4, 3) := by decide +kernel
theorem dX6_blame_102 : decode cX6_blame 102 = .ok (.iload_n 3, 1) := by decide +kernel
theorem dX6_blame_103 : decode cX6_blame 103 = .ok (.istore_n 3, 1) := by decide +kernel
theorem dX6_blame_104 : decode cX6_blame 104 = .ok (.iinc 4 1, 3) := by decide +kernel
theorem dX6_blame_107 : decode cX6_blame 107 = .ok (.goto (-87), 3) := by decide +kernel
theorem dX6_blame_110 : decode cX6_blame 110 = .ok (.iload_n 1, 1) := by decide +kernel
theorem dX6_blame_111 : decode cX6_blame 111 = .ok (.ifCond .ne 7, 3) := by decide +kernel
theorem dX6_blame_114 : decode cX6_blame 114 = .ok (.iload_n 2, 1) := by decide +kernel
theorem dX6_blame_115 : decode cX6_blame 115 = .ok (.goto 4, 3) := by decide +kernel
theorem dX6_blame_118 : decode cX6_blame 118 = .ok (.iload_n 3, 1) := by decide +kernel
theorem dX6_blame_119 : decode cX6_blame 119 = .ok (.ireturn, 1) := by decide +kernel
set_option maxRecDepth 20000 in
theorem ggX6_fifths_X6_in : GoodIn wsX6_fifths wsX6_in := goodIn_r _ [5] (by decide +kernel) (by decide +kernel)
set_option maxRecDepth 20000 in
theorem gX6_fifths_X6_in : GoodIn wsX6_fifths (va_wsS RX6 58 yX6_in wsX6_in) := goodIn_app (goodIn_of _ (by decide +kernel)) ggX6_fifths_X6_in
set_option maxRecDepth 20000 in
theorem ggX6_fifths_X6_plain : GoodIn wsX6_fifths wsX6_plain := goodIn_r _ [8] (by decide +kernel) (by decide +kernel)
set_option maxRecDepth 20000 in
theorem gX6_fifths_X6_plain : GoodIn wsX6_fifths (va_wsS RX6 143 yX6_plain wsX6_plain) := goodIn_app (goodIn_of _ (by decide +kernel)) ggX6_fifths_X6_plain
theorem dX6_fifths_0 : decode cX6_fifths 0 = .ok (.iload_n 1, 1) := by decide +kernel
theorem dX6_fifths_1 : decode cX6_fifths 1 = .ok (.i2l, 1) := by decide +kernel
theorem dX6_fifths_2 : decode cX6_fifths 2 = .ok (.lconst 0, 1) := by decide +kernel
theorem dX6_fifths_3 : decode cX6_fifths 3 = .ok (.ldc2_w 182, 3) := by decide +kernel
theorem dX6_fifths_6 : decode cX6_fifths 6 = .ok (.invokestatic 58, 3) := by decide +kernel
theorem dX6_fifths_9 : decode cX6_fifths 9 = .ok (.ifCond .eq 25, 3) := by decide +kernel
theorem dX6_fifths_12 : decode cX6_fifths 12 = .ok (.iload_n 2, 1) := by decide +kernel
theorem dX6_fifths_13 : decode cX6_fifths 13 = .ok (.i2l, 1) := by decide +kernel
theorem dX6_fifths_14 : decode cX6_fifths 14 = .ok (.lconst 0, 1) := by decide +kernel
theorem dX6_fifths_15 : decode cX6_fifths 15 = .ok (.ldc2_w 182, 3) := by decide +kernel
theorem dX6_fifths_18 : decode cX6_fifths 18 = .ok (.invokestatic 58, 3) := by decide +kernel
theorem dX6_fifths_21 : decode cX6_fifths 21 = .ok (.ifCond .eq 13, 3) := by decide +kernel
theorem dX6_fifths_24 : decode cX6_fifths 24 = .ok (.iload_n 3, 1) := by decide +kernel
theorem dX6_fifths_25 : decode cX6_fifths 25 = .ok (.i2l, 1) := by decide +kernel
theorem dX6_fifths_26 : decode cX6_fifths 26 = .ok (.lconst 0, 1) := by decide +kernel
theorem dX6_fifths_27 : decode cX6_fifths 27 = .ok (.lconst 1, 1) := by decide +kernel
theorem dX6_fifths_28 : decode cX6_fifths 28 = .ok (.invokestatic 58, 3) := by decide +kernel
theorem dX6_fifths_31 : decode cX6_fifths 31 = .ok (.ifCond .ne 5, 3) := by decide +kernel
theorem dX6_fifths_34 : decode cX6_fifths 34 = .ok (.iconst (-1), 1) := by decide +kernel
theorem dX6_fifths_35 : decode cX6_fifths 35 = .ok (.ireturn, 1) := by decide +kernel
theorem dX6_fifths_36 : decode cX6_fifths 36 = .ok (.iconst 0, 1) := by decide +kernel
theorem dX6_fifths_37 : decode cX6_fifths 37 = .ok (.istore 4, 2) := by decide +kernel
theorem dX6_fifths_39 : decode cX6_fifths 39 = .ok (.sipush 1000, 3) := by decide +kernel
theorem dX6_fifths_42 : decode cX6_fifths 42 = .ok (.istore 5, 2) := by decide +kernel
theorem dX6_fifths_44 : decode cX6_fifths 44 = .ok (.bipush (-20), 2) := by decide +kernel
theorem dX6_fifths_46 : decode cX6_fifths 46 = .ok (.istore 6, 2) := by decide +kernel
theorem dX6_fifths_48 : decode cX6_fifths 48 = .ok (.iload 6, 2) := by decide +kernel
theorem dX6_fifths_50 : decode cX6_fifths 50 = .ok (.bipush 20, 2) := by decide +kernel
theorem dX6_fifths_52 : decode cX6_fifths 52 = .ok (.if_icmp .gt 88, 3) := by decide +kernel
theorem dX6_fifths_55 : decode cX6_fifths 55 = .ok (.iconst 0, 1) := by decide +kernel
theorem dX6_fifths_56 : decode cX6_fifths 56 = .ok (.istore 7, 2) := by decide +kernel
theorem dX6_fifths_58 : decode cX6_fifths 58 = .ok (.iload_n 1, 1) := by decide +kernel
theorem dX6_fifths_59 : decode cX6_fifths 59 = .ok (.ineg, 1) := by decide +kernel
theorem dX6_fifths_60 : decode cX6_fifths 60 = .ok (.istore 8, 2) := by decide +kernel
theorem dX6_fifths_62 : decode cX6_fifths 62 = .ok (.iload 8, 2) := by decide +kernel
theorem dX6_fifths_64 : decode cX6_fifths 64 = .ok (.iload_n 2, 1) := by decide +kernel
theorem dX6_fifths_65 : decode cX6_fifths 65 = .ok (.if_icmp .gt 37, 3) := by decide +kernel
theorem dX6_fifths_68 : decode cX6_fifths 68 = .ok (.iconst 2, 1) := by decide +kernel
theorem dX6_fifths_69 : decode cX6_fifths 69 = .ok (.iload 8, 2) := by decide +kernel
theorem dX6_fifths_71 : decode cX6_fifths 71 = .ok (.imul, 1) := by decide +kernel
theorem dX6_fifths_72 : decode cX6_fifths 72 = .ok (.iload 6, 2) := by decide +kernel
theorem dX6_fifths_74 : decode cX6_fifths 74 = .ok (.iadd, 1) := by decide +kernel
theorem dX6_fifths_75 : decode cX6_fifths 75 = .ok (.invokestatic 143, 3) := by decide +kernel
theorem dX6_fifths_78 : decode cX6_fifths 78 = .ok (.istore 9, 2) := by decide +kernel
theorem dX6_fifths_80 : decode cX6_fifths 80 = .ok (.iload 9, 2) := by decide +kernel
theorem dX6_fifths_82 : decode cX6_fifths 82 = .ok (.iload 7, 2) := by decide +kernel
theorem dX6_fifths_84 : decode cX6_fifths 84 = .ok (.if_icmp .le 8, 3) := by decide +kernel
theorem dX6_fifths_87 : decode cX6_fifths 87 = .ok (.iload 9, 2) := by decide +kernel
theorem dX6_fifths_89 : decode cX6_fifths 89 = .ok (.goto 5, 3) := by decide +kernel
theorem dX6_fifths_92 : decode cX6_fifths 92 = .ok (.iload 7, 2) := by decide +kernel
theorem dX6_fifths_94 : decode cX6_fifths 94 = .ok (.istore 7, 2) := by decide +kernel
theorem dX6_fifths_96 : decode cX6_fifths 96 = .ok (.iinc 8 1, 3) := by decide +kernel
theorem dX6_fifths_99 : decode cX6_fifths 99 = .ok (.goto (-37), 3) := by decide +kernel
theorem dX6_fifths_102 : decode cX6_fifths 102 = .ok (.iload 7, 2) := by decide +kernel
theorem dX6_fifths_104 : decode cX6_fifths 104 = .ok (.iload 5, 2) := by decide +kernel
theorem dX6_fifths_106 : decode cX6_fifths 106 = .ok (.if_icmp .ge 8, 3) := by decide +kernel
theorem dX6_fifths_109 : decode cX6_fifths 109 = .ok (.iload 6, 2) := by decide +kernel
theorem dX6_fifths_111 : decode cX6_fifths 111 = .ok (.goto 5, 3) := by decide +kernel
theorem dX6_fifths_114 : decode cX6_fifths 114 = .ok (.iload 4, 2) := by decide +kernel
theorem dX6_fifths_116 : decode cX6_fifths 116 = .ok (.istore 4, 2) := by decide +kernel
theorem dX6_fifths_118 : decode cX6_fifths 118 = .ok (.iload 7, 2) := by decide +kernel
theorem dX6_fifths_120 : decode cX6_fifths 120 = .ok (.iload 5, 2) := by decide +kernel
theorem dX6_fifths_122 : decode cX6_fifths 122 = .ok (.if_icmp .ge 8, 3) := by decide +kernel
theorem dX6_fifths_125 : decode cX6_fifths 125 = .ok (.iload 7, 2) := by decide +kernel
theorem dX6_fifths_127 : decode cX6_fifths 127 = .ok (.goto 5, 3) := by decide +kernel
theorem dX6_fifths_130 : decode cX6_fifths 130 = .ok (.iload 5, 2) := by decide +kernel
theorem dX6_fifths_132 : decode cX6_fifths 132 = .ok (.istore 5, 2) := by decide +kernel
theorem dX6_fifths_134 : decode cX6_fifths 134 = .ok (.iinc 6 1, 3) := by decide +kernel
theorem dX6_fifths_137 : decode cX6_fifths 137 = .ok (.goto (-89), 3) := by decide +kernel
theorem dX6_fifths_140 : decode cX6_fifths 140 = .ok (.iload_n 3, 1) := by decide +kernel
theorem dX6_fifths_141 : decode cX6_fifths 141 = .ok (.ifCond .ne 11, 3) := by decide +kernel
theorem dX6_fifths_144 : decode cX6_fifths 144 = .ok (.iload 4, 2) := by decide +kernel
theorem dX6_fifths_146 : decode cX6_fifths 146 = .ok (.bipush 20, 2) := by decide +kernel
theorem dX6_fifths_148 : decode cX6_fifths 148 = .ok (.iadd, 1) := by decide +kernel
theorem dX6_fifths_149 : decode cX6_fifths 149 = .ok (.goto 5, 3) := by decide +kernel
theorem dX6_fifths_152 : decode cX6_fifths 152 = .ok (.iload 5, 2) := by decide +kernel
theorem dX6_fifths_154 : decode cX6_fifths 154 = .ok (.ireturn, 1) := by decide +kernel
set_option maxRecDepth 20000 in
theorem ggX6_together_X6_isSet : GoodIn wsX6_together wsX6_isSet := goodIn_r _ [9, 10, 11, 12, 8, 13, 14, 15, 16, 17, 18, 19, 20, 21, 22, 23, 24, 25, 26, 27, 28] (by decide +kernel) (by decide +kernel)
set_option maxRecDepth 20000 in
theorem gX6_together_X6_isSet : GoodIn wsX6_together (wsV RX6 146 RX6 yX6_isSet wsX6_isSet) := goodIn_app (goodIn_of _ (by decide +kernel)) ggX6_together_X6_isSet
set_option maxRecDepth 20000 in
theorem ggX6_together_X6_in : GoodIn wsX6_together wsX6_in := goodIn_r _ [13] (by decide +kernel) (by decide +kernel)
set_option maxRecDepth 20000 in
theorem gX6_together_X6_in : GoodIn wsX6_together (va_wsS RX6 58 yX6_in wsX6_in) := goodIn_app (goodIn_of _ (by decide +kernel)) ggX6_together_X6_in
theorem dX6_together_0 : decode cX6_together 0 = .ok (.aload_n 0, 1) := by decide +kernel
theorem dX6_together_1 : decode cX6_together 1 = .ok (.iload_n 1, 1) := by decide +kernel
theorem dX6_together_2 : decode cX6_together 2 = .ok (.invokevirtual 146, 3) := by decide +kernel
theorem dX6_together_5 : decode cX6_together 5 = .ok (.ifCond .eq 19, 3) := by decide +kernel
theorem dX6_together_8 : decode cX6_together 8 = .ok (.iload_n 1, 1) := by decide +kernel
theorem dX6_together_9 : decode cX6_together 9 = .ok (.ifCond .eq 15, 3) := by decide +kernel
theorem dX6_together_12 : decode cX6_together 12 = .ok (.iload_n 2, 1) := by decide +kernel
theorem dX6_together_13 : decode cX6_together 13 = .ok (.i2l, 1) := by decide +kernel
theorem dX6_together_14 : decode cX6_together 14 = .ok (.lconst 0, 1) := by decide +kernel
theorem dX6_together_15 : decode cX6_together 15 = .ok (.ldc2_w 184, 3) := by decide +kernel
theorem dX6_together_18 : decode cX6_together 18 = .ok (.invokestatic 58, 3) := by decide +kernel
theorem dX6_together_21 : decode cX6_together 21 = .ok (.ifCond .ne 5, 3) := by decide +kernel
theorem dX6_together_24 : decode cX6_together 24 = .ok (.iconst (-1), 1) := by decide +kernel
theorem dX6_together_25 : decode cX6_together 25 = .ok (.ireturn, 1) := by decide +kernel
theorem dX6_together_26 : decode cX6_together 26 = .ok (.aload_n 0, 1) := by decide +kernel
theorem dX6_together_27 : decode cX6_together 27 = .ok (.getfield 51, 3) := by decide +kernel
theorem dX6_together_30 : decode cX6_together 30 = .ok (.bipush 8, 2) := by decide +kernel
theorem dX6_together_32 : decode cX6_together 32 = .ok (.if_icmp .ne 6, 3) := by decide +kernel
theorem dX6_together_35 : decode cX6_together 35 = .ok (.bipush (-3), 2) := by decide +kernel
theorem dX6_together_37 : decode cX6_together 37 = .ok (.ireturn, 1) := by decide +kernel
theorem dX6_together_38 : decode cX6_together 38 = .ok (.aload_n 0, 1) := by decide +kernel
theorem dX6_together_39 : decode cX6_together 39 = .ok (.getfield 28, 3) := by decide +kernel
theorem dX6_together_42 : decode cX6_together 42 = .ok (.aload_n 0, 1) := by decide +kernel
theorem dX6_together_43 : decode cX6_together 43 = .ok (.getfield 51, 3) := by decide +kernel
theorem dX6_together_46 : decode cX6_together 46 = .ok (.iload_n 1, 1) := by decide +kernel
theorem dX6_together_47 : decode cX6_together 47 = .ok (.iastore, 1) := by decide +kernel
theorem dX6_together_48 : decode cX6_together 48 = .ok (.aload_n 0, 1) := by decide +kernel
theorem dX6_together_49 : decode cX6_together 49 = .ok (.getfield 31, 3) := by decide +kernel
theorem dX6_together_52 : decode cX6_together 52 = .ok (.aload_n 0, 1) := by decide +kernel
theorem dX6_together_53 : decode cX6_together 53 = .ok (.getfield 51, 3) := by decide +kernel
theorem dX6_together_56 : decode cX6_together 56 = .ok (.iload_n 2, 1) := by decide +kernel
theorem dX6_together_57 : decode cX6_together 57 = .ok (.sipush 200, 3) := by decide +kernel
theorem dX6_together_60 : decode cX6_together 60 = .ok (.isub, 1) := by decide +kernel
theorem dX6_together_61 : decode cX6_together 61 = .ok (.iastore, 1) := by decide +kernel
theorem dX6_together_62 : decode cX6_together 62 = .ok (.aload_n 0, 1) := by decide +kernel
theorem dX6_together_63 : decode cX6_together 63 = .ok (.dup, 1) := by decide +kernel
theorem dX6_together_64 : decode cX6_together 64 = .ok (.getfield 51, 3) := by decide +kernel
theorem dX6_together_67 : decode cX6_together 67 = .ok (.iconst 1, 1) := by decide +kernel
theorem dX6_together_68 : decode cX6_together 68 = .ok (.iadd, 1) := by decide +kernel
theorem dX6_together_69 : decode cX6_together 69 = .ok (.putfield 51, 3) := by decide +kernel
theorem dX6_together_72 : decode cX6_together 72 = .ok (.aload_n 0, 1) := by decide +kernel
theorem dX6_together_73 : decode cX6_together 73 = .ok (.getfield 51, 3) := by decide +kernel
theorem dX6_together_76 : decode cX6_together 76 = .ok (.ireturn, 1) := by decide +kernel
theorem dX6_forget_0 : decode cX6_forget 0 = .ok (.aload_n 0, 1) := by decide +kernel
theorem dX6_forget_1 : decode cX6_forget 1 = .ok (.getfield 51, 3) := by decide +kernel
theorem dX6_forget_4 : decode cX6_forget 4 = .ok (.istore_n 1, 1) := by decide +kernel
theorem dX6_forget_5 : decode cX6_forget 5 = .ok (.aload_n 0, 1) := by decide +kernel
theorem dX6_forget_6 : decode cX6_forget 6 = .ok (.iconst 0, 1) := by decide +kernel
theorem dX6_forget_7 : decode cX6_forget 7 = .ok (.putfield 51, 3) := by decide +kernel
theorem dX6_forget_10 : decode cX6_forget 10 = .ok (.iload_n 1, 1) := by decide +kernel
theorem dX6_forget_11 : decode cX6_forget 11 = .ok (.ireturn, 1) := by decide +kernel
set_option maxRecDepth 20000 in
theorem ggX6_isSo_X6_has : GoodIn wsX6_isSo wsX6_has := goodIn_r _ [9] (by decide +kernel) (by decide +kernel)
set_option maxRecDepth 20000 in
theorem gX6_isSo_X6_has : GoodIn wsX6_isSo (va_wsS RX6 121 yX6_has wsX6_has) := goodIn_app (goodIn_of _ (by decide +kernel)) ggX6_isSo_X6_has
theorem dX6_isSo_0 : decode cX6_isSo 0 = .ok (.iconst 1, 1) := by decide +kernel
theorem dX6_isSo_1 : decode cX6_isSo 1 = .ok (.istore_n 3, 1) := by decide +kernel
theorem dX6_isSo_2 : decode cX6_isSo 2 = .ok (.iconst 0, 1) := by decide +kernel
theorem dX6_isSo_3 : decode cX6_isSo 3 = .ok (.istore 4, 2) := by decide +kernel
theorem dX6_isSo_5 : decode cX6_isSo 5 = .ok (.iload 4, 2) := by decide +kernel
theorem dX6_isSo_7 : decode cX6_isSo 7 = .ok (.aload_n 0, 1) := by decide +kernel
theorem dX6_isSo_8 : decode cX6_isSo 8 = .ok (.getfield 51, 3) := by decide +kernel
theorem dX6_isSo_11 : decode cX6_isSo 11 = .ok (.if_icmp .ge 105, 3) := by decide +kernel
theorem dX6_isSo_14 : decode cX6_isSo 14 = .ok (.aload_n 0, 1) := by decide +kernel
theorem dX6_isSo_15 : decode cX6_isSo 15 = .ok (.getfield 28, 3) := by decide +kernel
theorem dX6_isSo_18 : decode cX6_isSo 18 = .ok (.iload 4, 2) := by decide +kernel
theorem dX6_isSo_20 : decode cX6_isSo 20 = .ok (.iaload, 1) := by decide +kernel
theorem dX6_isSo_21 : decode cX6_isSo 21 = .ok (.iload_n 1, 1) := by decide +kernel
theorem dX6_isSo_22 : decode cX6_isSo 22 = .ok (.invokestatic 121, 3) := by decide +kernel
theorem dX6_isSo_25 : decode cX6_isSo 25 = .ok (.ifCond .eq 7, 3) := by decide +kernel
theorem dX6_isSo_28 : decode cX6_isSo 28 = .ok (.iload_n 2, 1) := by decide +kernel
theorem dX6_isSo_29 : decode cX6_isSo 29 = .ok (.goto 4, 3) := by decide +kernel
theorem dX6_isSo_32 : decode cX6_isSo 32 = .ok (.iconst 0, 1) := by decide +kernel
theorem dX6_isSo_33 : decode cX6_isSo 33 = .ok (.istore 5, 2) := by decide +kernel
theorem dX6_isSo_35 : decode cX6_isSo 35 = .ok (.iconst 0, 1) := by decide +kernel
theorem dX6_isSo_36 : decode cX6_isSo 36 = .ok (.istore 6, 2) := by decide +kernel
theorem dX6_isSo_38 : decode cX6_isSo 38 = .ok (.iload 6, 2) := by decide +kernel
theorem dX6_isSo_40 : decode cX6_isSo 40 = .ok (.aload_n 0, 1) := by decide +kernel
theorem dX6_isSo_41 : decode cX6_isSo 41 = .ok (.getfield 7, 3) := by decide +kernel
theorem dX6_isSo_44 : decode cX6_isSo 44 = .ok (.iconst 0, 1) := by decide +kernel
theorem dX6_isSo_45 : decode cX6_isSo 45 = .ok (.iaload, 1) := by decide +kernel
theorem dX6_isSo_46 : decode cX6_isSo 46 = .ok (.if_icmp .ge 42, 3) := by decide +kernel
theorem dX6_isSo_49 : decode cX6_isSo 49 = .ok (.iload 5, 2) := by decide +kernel
theorem dX6_isSo_51 : decode cX6_isSo 51 = .ok (.aload_n 0, 1) := by decide +kernel
theorem dX6_isSo_52 : decode cX6_isSo 52 = .ok (.getfield 28, 3) := by decide +kernel
theorem dX6_isSo_55 : decode cX6_isSo 55 = .ok (.iload 4, 2) := by decide +kernel
theorem dX6_isSo_57 : decode cX6_isSo 57 = .ok (.iaload, 1) := by decide +kernel
theorem dX6_isSo_58 : decode cX6_isSo 58 = .ok (.iload 6, 2) := by decide +kernel
theorem dX6_isSo_60 : decode cX6_isSo 60 = .ok (.invokestatic 121, 3) := by decide +kernel
theorem dX6_isSo_63 : decode cX6_isSo 63 = .ok (.ifCond .eq 15, 3) := by decide +kernel
theorem dX6_isSo_66 : decode cX6_isSo 66 = .ok (.aload_n 0, 1) := by decide +kernel
theorem dX6_isSo_67 : decode cX6_isSo 67 = .ok (.getfield 13, 3) := by decide +kernel
theorem dX6_isSo_70 : decode cX6_isSo 70 = .ok (.iconst 0, 1) := by decide +kernel
theorem dX6_isSo_71 : decode cX6_isSo 71 = .ok (.iload 6, 2) := by decide +kernel
theorem dX6_isSo_73 : decode cX6_isSo 73 = .ok (.iadd, 1) := by decide +kernel
theorem dX6_isSo_74 : decode cX6_isSo 74 = .ok (.iaload, 1) := by decide +kernel
theorem dX6_isSo_75 : decode cX6_isSo 75 = .ok (.goto 4, 3) := by decide +kernel
theorem dX6_isSo_78 : decode cX6_isSo 78 = .ok (.iconst 0, 1) := by decide +kernel
theorem dX6_isSo_79 : decode cX6_isSo 79 = .ok (.iadd, 1) := by decide +kernel
theorem dX6_isSo_80 : decode cX6_isSo 80 = .ok (.istore 5, 2) := by decide +kernel
theorem dX6_isSo_82 : decode cX6_isSo 82 = .ok (.iinc 6 1, 3) := by decide +kernel
theorem dX6_isSo_85 : decode cX6_isSo 85 = .ok (.goto (-47), 3) := by decide +kernel
theorem dX6_isSo_88 : decode cX6_isSo 88 = .ok (.iload_n 3, 1) := by decide +kernel
theorem dX6_isSo_89 : decode cX6_isSo 89 = .ok (.ifCond .eq 19, 3) := by decide +kernel
theorem dX6_isSo_92 : decode cX6_isSo 92 = .ok (.iload 5, 2) := by decide +kernel
theorem dX6_isSo_94 : decode cX6_isSo 94 = .ok (.aload_n 0, 1) := by decide +kernel
theorem dX6_isSo_95 : decode cX6_isSo 95 = .ok (.getfield 31, 3) := by decide +kernel
theorem dX6_isSo_98 : decode cX6_isSo 98 = .ok (.iload 4, 2) := by decide +kernel
theorem dX6_isSo_100 : decode cX6_isSo 100 = .ok (.iaload, 1) := by decide +kernel
theorem dX6_isSo_101 : decode cX6_isSo 101 = .ok (.if_icmp .ne 7, 3) := by decide +kernel
theorem dX6_isSo_104 : decode cX6_isSo 104 = .ok (.iconst 1, 1) := by decide +kernel
theorem dX6_isSo_105 : decode cX6_isSo 105 = .ok (.goto 4, 3) := by decide +kernel
theorem dX6_isSo_108 : decode cX6_isSo 108 = .ok (.iconst 0, 1) := by decide +kernel
theorem dX6_isSo_109 : decode cX6_isSo 109 = .ok (.istore_n 3, 1) := by decide +kernel
theorem dX6_isSo_110 : decode cX6_isSo 110 = .ok (.iinc 4 1, 3) := by decide +kernel
theorem dX6_isSo_113 : decode cX6_isSo 113 = .ok (.goto (-108), 3) := by decide +kernel
theorem dX6_isSo_116 : decode cX6_isSo 116 = .ok (.iload_n 3, 1) := by decide +kernel
theorem dX6_isSo_117 : decode cX6_isSo 117 = .ok (.ireturn, 1) := by decide +kernel
set_option maxRecDepth 20000 in
theorem ggX6_high_X6_in : GoodIn wsX6_high wsX6_in := goodIn_r _ [5] (by decide +kernel) (by decide +kernel)
set_option maxRecDepth 20000 in
theorem gX6_high_X6_in : GoodIn wsX6_high (va_wsS RX6 58 yX6_in wsX6_in) := goodIn_app (goodIn_of _ (by decide +kernel)) ggX6_high_X6_in
set_option maxRecDepth 20000 in
theorem ggX6_high_X6_isSo : GoodIn wsX6_high wsX6_isSo := goodIn_r _ [9, 10, 11, 1, 12, 13, 14, 15, 4, 16, 17, 18, 19, 20, 21, 22, 23, 24, 25, 26, 27, 28, 29, 30, 31] (by decide +kernel) (by decide +kernel)
set_option maxRecDepth 20000 in
theorem gX6_high_X6_isSo : GoodIn wsX6_high (wsV RX6 186 RX6 yX6_isSo wsX6_isSo) := goodIn_app (goodIn_of _ (by decide +kernel)) ggX6_high_X6_isSo
theorem dX6_high_0 : decode cX6_high 0 = .ok (.iload_n 1, 1) := by decide +kernel
theorem dX6_high_1 : decode cX6_high 1 = .ok (.i2l, 1) := by decide +kernel
theorem dX6_high_2 : decode cX6_high 2 = .ok (.lconst 0, 1) := by decide +kernel
theorem dX6_high_3 : decode cX6_high 3 = .ok (.lconst 1, 1) := by decide +kernel
theorem dX6_high_4 : decode cX6_high 4 = .ok (.invokestatic 58, 3) := by decide +kernel
theorem dX6_high_7 : decode cX6_high 7 = .ok (.ifCond .ne 5, 3) := by decide +kernel
theorem dX6_high_10 : decode cX6_high 10 = .ok (.iconst (-1), 1) := by decide +kernel
theorem dX6_high_11 : decode cX6_high 11 = .ok (.ireturn, 1) := by decide +kernel
theorem dX6_high_12 : decode cX6_high 12 = .ok (.iconst 0, 1) := by decide +kernel
theorem dX6_high_13 : decode cX6_high 13 = .ok (.istore_n 2, 1) := by decide +kernel
theorem dX6_high_14 : decode cX6_high 14 = .ok (.bipush (-4), 2) := by decide +kernel
theorem dX6_high_16 : decode cX6_high 16 = .ok (.istore_n 3, 1) := by decide +kernel
theorem dX6_high_17 : decode cX6_high 17 = .ok (.iconst 0, 1) := by decide +kernel
theorem dX6_high_18 : decode cX6_high 18 = .ok (.istore 4, 2) := by decide +kernel
theorem dX6_high_20 : decode cX6_high 20 = .ok (.iload 4, 2) := by decide +kernel
theorem dX6_high_22 : decode cX6_high 22 = .ok (.aload_n 0, 1) := by decide +kernel
theorem dX6_high_23 : decode cX6_high 23 = .ok (.getfield 7, 3) := by decide +kernel
theorem dX6_high_26 : decode cX6_high 26 = .ok (.iconst 0, 1) := by decide +kernel
theorem dX6_high_27 : decode cX6_high 27 = .ok (.iaload, 1) := by decide +kernel
theorem dX6_high_28 : decode cX6_high 28 = .ok (.if_icmp .ge 87, 3) := by decide +kernel
theorem dX6_high_31 : decode cX6_high 31 = .ok (.bipush (-9), 2) := by decide +kernel
theorem dX6_high_33 : decode cX6_high 33 = .ok (.istore 5, 2) := by decide +kernel
theorem dX6_high_35 : decode cX6_high 35 = .ok (.iload 5, 2) := by decide +kernel
theorem dX6_high_37 : decode cX6_high 37 = .ok (.bipush 9, 2) := by decide +kernel
theorem dX6_high_39 : decode cX6_high 39 = .ok (.if_icmp .gt 70, 3) := by decide +kernel
theorem dX6_high_42 : decode cX6_high 42 = .ok (.iload 5, 2) := by decide +kernel
theorem dX6_high_44 : decode cX6_high 44 = .ok (.ifCond .eq 18, 3) := by decide +kernel
theorem dX6_high_47 : decode cX6_high 47 = .ok (.aload_n 0, 1) := by decide +kernel
theorem dX6_high_48 : decode cX6_high 48 = .ok (.iload 4, 2) := by decide +kernel
theorem dX6_high_50 : decode cX6_high 50 = .ok (.iload 5, 2) := by decide +kernel
theorem dX6_high_52 : decode cX6_high 52 = .ok (.invokevirtual 186, 3) := by decide +kernel
theorem dX6_high_55 : decode cX6_high 55 = .ok (.ifCond .eq 7, 3) := by decide +kernel
theorem dX6_high_58 : decode cX6_high 58 = .ok (.iconst 1, 1) := by decide +kernel
theorem dX6_high_59 : decode cX6_high 59 = .ok (.goto 4, 3) := by decide +kernel
theorem dX6_high_62 : decode cX6_high 62 = .ok (.iconst 0, 1) := by decide +kernel
theorem dX6_high_63 : decode cX6_high 63 = .ok (.istore 6, 2) := by decide +kernel
theorem dX6_high_65 : decode cX6_high 65 = .ok (.iload 6, 2) := by decide +kernel
theorem dX6_high_67 : decode cX6_high 67 = .ok (.ifCond .eq 21, 3) := by decide +kernel
theorem dX6_high_70 : decode cX6_high 70 = .ok (.iload_n 2, 1) := by decide +kernel
theorem dX6_high_71 : decode cX6_high 71 = .ok (.ifCond .ne 17, 3) := by decide +kernel
theorem dX6_high_74 : decode cX6_high 74 = .ok (.bipush 20, 2) := by decide +kernel
theorem dX6_high_76 : decode cX6_high 76 = .ok (.iload 4, 2) := by decide +kernel
theorem dX6_high_78 : decode cX6_high 78 = .ok (.imul, 1) := by decide +kernel
theorem dX6_high_79 : decode cX6_high 79 = .ok (.iload 5, 2) := by decide +kernel
theorem dX6_high_81 : decode cX6_high 81 = .ok (.iadd, 1) := by decide +kernel
theorem dX6_high_82 : decode cX6_high 82 = .ok (.bipush 9, 2) := by decide +kernel
theorem dX6_high_84 : decode cX6_high 84 = .ok (.iadd, 1) := by decide +kernel
theorem dX6_high_85 : decode cX6_high 85 = .ok (.goto 4, 3) := by decide +kernel
theorem dX6_high_88 : decode cX6_high 88 = .ok (.iload_n 3, 1) := by decide +kernel
theorem dX6_high_89 : decode cX6_high 89 = .ok (.istore_n 3, 1) := by decide +kernel
theorem dX6_high_90 : decode cX6_high 90 = .ok (.iload_n 2, 1) := by decide +kernel
theorem dX6_high_91 : decode cX6_high 91 = .ok (.iload 6, 2) := by decide +kernel
theorem dX6_high_93 : decode cX6_high 93 = .ok (.ifCond .eq 7, 3) := by decide +kernel
theorem dX6_high_96 : decode cX6_high 96 = .ok (.iconst 1, 1) := by decide +kernel
theorem dX6_high_97 : decode cX6_high 97 = .ok (.goto 4, 3) := by decide +kernel
theorem dX6_high_100 : decode cX6_high 100 = .ok (.iconst 0, 1) := by decide +kernel
theorem dX6_high_101 : decode cX6_high 101 = .ok (.iadd, 1) := by decide +kernel
theorem dX6_high_102 : decode cX6_high 102 = .ok (.istore_n 2, 1) := by decide +kernel
theorem dX6_high_103 : decode cX6_high 103 = .ok (.iinc 5 1, 3) := by decide +kernel
theorem dX6_high_106 : decode cX6_high 106 = .ok (.goto (-71), 3) := by decide +kernel
theorem dX6_high_109 : decode cX6_high 109 = .ok (.iinc 4 1, 3) := by decide +kernel
theorem dX6_high_112 : decode cX6_high 112 = .ok (.goto (-92), 3) := by decide +kernel
theorem dX6_high_115 : decode cX6_high 115 = .ok (.iload_n 1, 1) := by decide +kernel
theorem dX6_high_116 : decode cX6_high 116 = .ok (.ifCond .ne 7, 3) := by decide +kernel
theorem dX6_high_119 : decode cX6_high 119 = .ok (.iload_n 2, 1) := by decide +kernel
theorem dX6_high_120 : decode cX6_high 120 = .ok (.goto 4, 3) := by decide +kernel
theorem dX6_high_123 : decode cX6_high 123 = .ok (.iload_n 3, 1) := by decide +kernel
theorem dX6_high_124 : decode cX6_high 124 = .ok (.ireturn, 1) := by decide +kernel
set_option maxRecDepth 20000 in
theorem ggX6_odds_X6_in : GoodIn wsX6_odds wsX6_in := goodIn_r _ [7] (by decide +kernel) (by decide +kernel)
set_option maxRecDepth 20000 in
theorem gX6_odds_X6_in : GoodIn wsX6_odds (va_wsS RX6 58 yX6_in wsX6_in) := goodIn_app (goodIn_of _ (by decide +kernel)) ggX6_odds_X6_in
set_option maxRecDepth 20000 in
theorem ggX6_odds_X6_lays : GoodIn wsX6_odds wsX6_lays := goodIn_r _ [11, 3, 28, 29, 30, 31, 32, 33, 34, 35, 36, 37, 38, 39, 40, 41, 42] (by decide +kernel) (by decide +kernel)
set_option maxRecDepth 20000 in
theorem gX6_odds_X6_lays : GoodIn wsX6_odds (wsV RX6 152 RX6 yX6_lays wsX6_lays) := goodIn_app (goodIn_of _ (by decide +kernel)) ggX6_odds_X6_lays
set_option maxRecDepth 20000 in
theorem ggX6_odds_X6_has : GoodIn wsX6_odds wsX6_has := goodIn_r _ [14] (by decide +kernel) (by decide +kernel)
set_option maxRecDepth 20000 in
theorem gX6_odds_X6_has : GoodIn wsX6_odds (va_wsS RX6 121 yX6_has wsX6_has) := goodIn_app (goodIn_of _ (by decide +kernel)) ggX6_odds_X6_has
set_option maxRecDepth 20000 in
theorem ggX6_odds_X6_within : GoodIn wsX6_odds wsX6_within := goodIn_r _ [17] (by decide +kernel) (by decide +kernel)
set_option maxRecDepth 20000 in
theorem gX6_odds_X6_within : GoodIn wsX6_odds (va_wsS RX6 114 yX6_within wsX6_within) := goodIn_app (goodIn_of _ (by decide +kernel)) ggX6_odds_X6_within
set_option maxRecDepth 20000 in
theorem ggX6_odds_X6_heardOf : GoodIn wsX6_odds wsX6_heardOf := goodIn_r _ [21, 2, 3, 22, 23, 6, 24, 28, 29, 30, 31, 32, 33, 34, 35, 36, 37, 38, 39, 40, 41, 42] (by decide +kernel) (by decide +kernel)
set_option maxRecDepth 20000 in
theorem gX6_odds_X6_heardOf : GoodIn wsX6_odds (wsV RX6 168 RX6 yX6_heardOf wsX6_heardOf) := goodIn_app (goodIn_of _ (by decide +kernel)) ggX6_odds_X6_heardOf
set_option maxRecDepth 20000 in
theorem ggX6_odds_X6_common : GoodIn wsX6_odds wsX6_common := goodIn_r _ [27] (by decide +kernel) (by decide +kernel)
set_option maxRecDepth 20000 in
theorem gX6_odds_X6_common : GoodIn wsX6_odds (va_wsS RX6 171 yX6_common wsX6_common) := goodIn_app (goodIn_of _ (by decide +kernel)) ggX6_odds_X6_common
theorem dX6_odds_0 : decode cX6_odds 0 = .ok (.iload_n 1, 1) := by decide +kernel
theorem dX6_odds_1 : decode cX6_odds 1 = .ok (.i2l, 1) := by decide +kernel
theorem dX6_odds_2 : decode cX6_odds 2 = .ok (.lconst 0, 1) := by decide +kernel
theorem dX6_odds_3 : decode cX6_odds 3 = .ok (.ldc2_w 189, 3) := by decide +kernel
theorem dX6_odds_6 : decode cX6_odds 6 = .ok (.invokestatic 58, 3) := by decide +kernel
theorem dX6_odds_9 : decode cX6_odds 9 = .ok (.ifCond .eq 13, 3) := by decide +kernel
theorem dX6_odds_12 : decode cX6_odds 12 = .ok (.iload_n 2, 1) := by decide +kernel
theorem dX6_odds_13 : decode cX6_odds 13 = .ok (.i2l, 1) := by decide +kernel
theorem dX6_odds_14 : decode cX6_odds 14 = .ok (.lconst 0, 1) := by decide +kernel
theorem dX6_odds_15 : decode cX6_odds 15 = .ok (.lconst 1, 1) := by decide +kernel
theorem dX6_odds_16 : decode cX6_odds 16 = .ok (.invokestatic 58, 3) := by decide +kernel
theorem dX6_odds_19 : decode cX6_odds 19 = .ok (.ifCond .ne 5, 3) := by decide +kernel
theorem dX6_odds_22 : decode cX6_odds 22 = .ok (.iconst (-1), 1) := by decide +kernel
theorem dX6_odds_23 : decode cX6_odds 23 = .ok (.ireturn, 1) := by decide +kernel
theorem dX6_odds_24 : decode cX6_odds 24 = .ok (.iconst 0, 1) := by decide +kernel
theorem dX6_odds_25 : decode cX6_odds 25 = .ok (.istore_n 3, 1) := by decide +kernel
theorem dX6_odds_26 : decode cX6_odds 26 = .ok (.iconst 1, 1) := by decide +kernel
theorem dX6_odds_27 : decode cX6_odds 27 = .ok (.istore 4, 2) := by decide +kernel
theorem dX6_odds_29 : decode cX6_odds 29 = .ok (.iconst 0, 1) := by decide +kernel
theorem dX6_odds_30 : decode cX6_odds 30 = .ok (.istore 5, 2) := by decide +kernel
theorem dX6_odds_32 : decode cX6_odds 32 = .ok (.iload 5, 2) := by decide +kernel
theorem dX6_odds_34 : decode cX6_odds 34 = .ok (.aload_n 0, 1) := by decide +kernel
theorem dX6_odds_35 : decode cX6_odds 35 = .ok (.getfield 7, 3) := by decide +kernel
theorem dX6_odds_38 : decode cX6_odds 38 = .ok (.iconst 0, 1) := by decide +kernel
theorem dX6_odds_39 : decode cX6_odds 39 = .ok (.iaload, 1) := by decide +kernel
theorem dX6_odds_40 : decode cX6_odds 40 = .ok (.if_icmp .ge 73, 3) := by decide +kernel
theorem dX6_odds_43 : decode cX6_odds 43 = .ok (.aload_n 0, 1) := by decide +kernel
theorem dX6_odds_44 : decode cX6_odds 44 = .ok (.getfield 7, 3) := by decide +kernel
theorem dX6_odds_47 : decode cX6_odds 47 = .ok (.iconst 1, 1) := by decide +kernel
theorem dX6_odds_48 : decode cX6_odds 48 = .ok (.iload 5, 2) := by decide +kernel
theorem dX6_odds_50 : decode cX6_odds 50 = .ok (.iadd, 1) := by decide +kernel
theorem dX6_odds_51 : decode cX6_odds 51 = .ok (.iaload, 1) := by decide +kernel
theorem dX6_odds_52 : decode cX6_odds 52 = .ok (.ifCond .eq 16, 3) := by decide +kernel
theorem dX6_odds_55 : decode cX6_odds 55 = .ok (.aload_n 0, 1) := by decide +kernel
theorem dX6_odds_56 : decode cX6_odds 56 = .ok (.getfield 7, 3) := by decide +kernel
theorem dX6_odds_59 : decode cX6_odds 59 = .ok (.iconst 1, 1) := by decide +kernel
theorem dX6_odds_60 : decode cX6_odds 60 = .ok (.iload 5, 2) := by decide +kernel
theorem dX6_odds_62 : decode cX6_odds 62 = .ok (.iadd, 1) := by decide +kernel
theorem dX6_odds_63 : decode cX6_odds 63 = .ok (.iaload, 1) := by decide +kernel
theorem dX6_odds_64 : decode cX6_odds 64 = .ok (.iconst 3, 1) := by decide +kernel
theorem dX6_odds_65 : decode cX6_odds 65 = .ok (.if_icmp .ne 7, 3) := by decide +kernel
theorem dX6_odds_68 : decode cX6_odds 68 = .ok (.iconst 1, 1) := by decide +kernel
theorem dX6_odds_69 : decode cX6_odds 69 = .ok (.goto 4, 3) := by decide +kernel
theorem dX6_odds_72 : decode cX6_odds 72 = .ok (.iconst 0, 1) := by decide +kernel
theorem dX6_odds_73 : decode cX6_odds 73 = .ok (.istore 6, 2) := by decide +kernel
theorem dX6_odds_75 : decode cX6_odds 75 = .ok (.iload_n 3, 1) := by decide +kernel
theorem dX6_odds_76 : decode cX6_odds 76 = .ok (.iload 6, 2) := by decide +kernel
theorem dX6_odds_78 : decode cX6_odds 78 = .ok (.ifCond .eq 10, 3) := by decide +kernel
theorem dX6_odds_81 : decode cX6_odds 81 = .ok (.iconst 1, 1) := by decide +kernel
theorem dX6_odds_82 : decode cX6_odds 82 = .ok (.iload 5, 2) := by decide +kernel
theorem dX6_odds_84 : decode cX6_odds 84 = .ok (.ishl, 1) := by decide +kernel
theorem dX6_odds_85 : decode cX6_odds 85 = .ok (.goto 4, 3) := by decide +kernel
theorem dX6_odds_88 : decode cX6_odds 88 = .ok (.iconst 0, 1) := by decide +kernel
theorem dX6_odds_89 : decode cX6_odds 89 = .ok (.ior, 1) := by decide +kernel
theorem dX6_odds_90 : decode cX6_odds 90 = .ok (.istore_n 3, 1) := by decide +kernel
theorem dX6_odds_91 : decode cX6_odds 91 = .ok (.iload 4, 2) := by decide +kernel
theorem dX6_odds_93 : decode cX6_odds 93 = .ok (.iload 6, 2) := by decide +kernel
theorem dX6_odds_95 : decode cX6_odds 95 = .ok (.ifCond .eq 8, 3) := by decide +kernel
theorem dX6_odds_98 : decode cX6_odds 98 = .ok (.bipush 10, 2) := by decide +kernel
theorem dX6_odds_100 : decode cX6_odds 100 = .ok (.goto 4, 3) := by decide +kernel
theorem dX6_odds_103 : decode cX6_odds 103 = .ok (.iconst 1, 1) := by decide +kernel
theorem dX6_odds_104 : decode cX6_odds 104 = .ok (.imul, 1) := by decide +kernel
theorem dX6_odds_105 : decode cX6_odds 105 = .ok (.istore 4, 2) := by decide +kernel
theorem dX6_odds_107 : decode cX6_odds 107 = .ok (.iinc 5 1, 3) := by decide +kernel
theorem dX6_odds_110 : decode cX6_odds 110 = .ok (.goto (-78), 3) := by decide +kernel
theorem dX6_odds_113 : decode cX6_odds 113 = .ok (.iconst 0, 1) := by decide +kernel
theorem dX6_odds_114 : decode cX6_odds 114 = .ok (.istore 5, 2) := by decide +kernel
theorem dX6_odds_116 : decode cX6_odds 116 = .ok (.iconst 0, 1) := by decide +kernel
theorem dX6_odds_117 : decode cX6_odds 117 = .ok (.istore 6, 2) := by decide +kernel
theorem dX6_odds_119 : decode cX6_odds 119 = .ok (.iload 6, 2) := by decide +kernel
theorem dX6_odds_121 : decode cX6_odds 121 = .ok (.iconst 1, 1) := by decide +kernel
theorem dX6_odds_122 : decode cX6_odds 122 = .ok (.aload_n 0, 1) := by decide +kernel
theorem dX6_odds_123 : decode cX6_odds 123 = .ok (.getfield 7, 3) := by decide +kernel
theorem dX6_odds_126 : decode cX6_odds 126 = .ok (.iconst 0, 1) := by decide +kernel
theorem dX6_odds_127 : decode cX6_odds 127 = .ok (.iaload, 1) := by decide +kernel
theorem dX6_odds_128 : decode cX6_odds 128 = .ok (.ishl, 1) := by decide +kernel
theorem dX6_odds_129 : decode cX6_odds 129 = .ok (.if_icmp .ge 143, 3) := by decide +kernel
theorem dX6_odds_132 : decode cX6_odds 132 = .ok (.iload 6, 2) := by decide +kernel
theorem dX6_odds_134 : decode cX6_odds 134 = .ok (.iload_n 3, 1) := by decide +kernel
theorem dX6_odds_135 : decode cX6_odds 135 = .ok (.iconst (-1), 1) := by decide +kernel
theorem dX6_odds_136 : decode cX6_odds 136 = .ok (.ixor, 1) := by decide +kernel
theorem dX6_odds_137 : decode cX6_odds 137 = .ok (.iand, 1) := by decide +kernel
theorem dX6_odds_138 : decode cX6_odds 138 = .ok (.ifCond .ne 128, 3) := by decide +kernel
theorem dX6_odds_141 : decode cX6_odds 141 = .ok (.iconst 1, 1) := by decide +kernel
theorem dX6_odds_142 : decode cX6_odds 142 = .ok (.istore 7, 2) := by decide +kernel
theorem dX6_odds_144 : decode cX6_odds 144 = .ok (.aload_n 0, 1) := by decide +kernel
theorem dX6_odds_145 : decode cX6_odds 145 = .ok (.invokevirtual 152, 3) := by decide +kernel
theorem dX6_odds_148 : decode cX6_odds 148 = .ok (.iconst 0, 1) := by decide +kernel
theorem dX6_odds_149 : decode cX6_odds 149 = .ok (.istore 8, 2) := by decide +kernel
theorem dX6_odds_151 : decode cX6_odds 151 = .ok (.iload 8, 2) := by decide +kernel
theorem dX6_odds_153 : decode cX6_odds 153 = .ok (.aload_n 0, 1) := by decide +kernel
theorem dX6_odds_154 : decode cX6_odds 154 = .ok (.getfield 7, 3) := by decide +kernel
theorem dX6_odds_157 : decode cX6_odds 157 = .ok (.iconst 0, 1) := by decide +kernel
theorem dX6_odds_158 : decode cX6_odds 158 = .ok (.iaload, 1) := by decide +kernel
theorem dX6_odds_159 : decode cX6_odds 159 = .ok (.if_icmp .ge 86, 3) := by decide +kernel
theorem dX6_odds_162 : decode cX6_odds 162 = .ok (.iload 7, 2) := by decide +kernel
theorem dX6_odds_164 : decode cX6_odds 164 = .ok (.iload_n 3, 1) := by decide +kernel
theorem dX6_odds_165 : decode cX6_odds 165 = .ok (.iload 8, 2) := by decide +kernel
theorem dX6_odds_167 : decode cX6_odds 167 = .ok (.invokestatic 121, 3) := by decide +kernel
theorem dX6_odds_170 : decode cX6_odds 170 = .ok (.ifCond .ne 7, 3) := by decide +kernel
theorem dX6_odds_173 : decode cX6_odds 173 = .ok (.iconst 1, 1) := by decide +kernel
theorem dX6_odds_174 : decode cX6_odds 174 = .ok (.goto 21, 3) := by decide +kernel
theorem dX6_odds_177 : decode cX6_odds 177 = .ok (.iload 6, 2) := by decide +kernel
theorem dX6_odds_179 : decode cX6_odds 179 = .ok (.iload 8, 2) := by decide +kernel
theorem dX6_odds_181 : decode cX6_odds 181 = .ok (.invokestatic 121, 3) := by decide +kernel
theorem dX6_odds_184 : decode cX6_odds 184 = .ok (.ifCond .eq 7, 3) := by decide +kernel
theorem dX6_odds_187 : decode cX6_odds 187 = .ok (.iload_n 1, 1) := by decide +kernel
theorem dX6_odds_188 : decode cX6_odds 188 = .ok (.goto 7, 3) := by decide +kernel
theorem dX6_odds_191 : decode cX6_odds 191 = .ok (.bipush 10, 2) := by decide +kernel
theorem dX6_odds_193 : decode cX6_odds 193 = .ok (.iload_n 1, 1) := by decide +kernel
theorem dX6_odds_194 : decode cX6_odds 194 = .ok (.isub, 1) := by decide +kernel
theorem dX6_odds_195 : decode cX6_odds 195 = .ok (.imul, 1) := by decide +kernel
theorem dX6_odds_196 : decode cX6_odds 196 = .ok (.istore 7, 2) := by decide +kernel
theorem dX6_odds_198 : decode cX6_odds 198 = .ok (.aload_n 0, 1) := by decide +kernel
theorem dX6_odds_199 : decode cX6_odds 199 = .ok (.getfield 13, 3) := by decide +kernel
theorem dX6_odds_202 : decode cX6_odds 202 = .ok (.sipush 198, 3) := by decide +kernel
theorem dX6_odds_205 : decode cX6_odds 205 = .ok (.iload 8, 2) := by decide +kernel
theorem dX6_odds_207 : decode cX6_odds 207 = .ok (.iadd, 1) := by decide +kernel
theorem dX6_odds_208 : decode cX6_odds 208 = .ok (.aload_n 0, 1) := by decide +kernel
theorem dX6_odds_209 : decode cX6_odds 209 = .ok (.getfield 13, 3) := by decide +kernel
theorem dX6_odds_212 : decode cX6_odds 212 = .ok (.sipush 198, 3) := by decide +kernel
theorem dX6_odds_215 : decode cX6_odds 215 = .ok (.iload 8, 2) := by decide +kernel
theorem dX6_odds_217 : decode cX6_odds 217 = .ok (.iadd, 1) := by decide +kernel
theorem dX6_odds_218 : decode cX6_odds 218 = .ok (.iaload, 1) := by decide +kernel
theorem dX6_odds_219 : decode cX6_odds 219 = .ok (.iload 6, 2) := by decide +kernel
theorem dX6_odds_221 : decode cX6_odds 221 = .ok (.iload 8, 2) := by decide +kernel
theorem dX6_odds_223 : decode cX6_odds 223 = .ok (.invokestatic 121, 3) := by decide +kernel
theorem dX6_odds_226 : decode cX6_odds 226 = .ok (.ifCond .eq 7, 3) := by decide +kernel
theorem dX6_odds_229 : decode cX6_odds 229 = .ok (.iconst 4, 1) := by decide +kernel
theorem dX6_odds_230 : decode cX6_odds 230 = .ok (.goto 4, 3) := by decide +kernel
theorem dX6_odds_233 : decode cX6_odds 233 = .ok (.iconst 0, 1) := by decide +kernel
theorem dX6_odds_234 : decode cX6_odds 234 = .ok (.isub, 1) := by decide +kernel
theorem dX6_odds_235 : decode cX6_odds 235 = .ok (.invokestatic 114, 3) := by decide +kernel
theorem dX6_odds_238 : decode cX6_odds 238 = .ok (.iastore, 1) := by decide +kernel
theorem dX6_odds_239 : decode cX6_odds 239 = .ok (.iinc 8 1, 3) := by decide +kernel
theorem dX6_odds_242 : decode cX6_odds 242 = .ok (.goto (-91), 3) := by decide +kernel
theorem dX6_odds_245 : decode cX6_odds 245 = .ok (.iload 5, 2) := by decide +kernel
theorem dX6_odds_247 : decode cX6_odds 247 = .ok (.aload_n 0, 1) := by decide +kernel
theorem dX6_odds_248 : decode cX6_odds 248 = .ok (.sipush 198, 3) := by decide +kernel
theorem dX6_odds_251 : decode cX6_odds 251 = .ok (.invokevirtual 168, 3) := by decide +kernel
theorem dX6_odds_254 : decode cX6_odds 254 = .ok (.ifCond .ne 8, 3) := by decide +kernel
theorem dX6_odds_257 : decode cX6_odds 257 = .ok (.iload 7, 2) := by decide +kernel
theorem dX6_odds_259 : decode cX6_odds 259 = .ok (.goto 4, 3) := by decide +kernel
theorem dX6_odds_262 : decode cX6_odds 262 = .ok (.iconst 0, 1) := by decide +kernel
theorem dX6_odds_263 : decode cX6_odds 263 = .ok (.iadd, 1) := by decide +kernel
theorem dX6_odds_264 : decode cX6_odds 264 = .ok (.istore 5, 2) := by decide +kernel
theorem dX6_odds_266 : decode cX6_odds 266 = .ok (.iinc 6 1, 3) := by decide +kernel
theorem dX6_odds_269 : decode cX6_odds 269 = .ok (.goto (-150), 3) := by decide +kernel
theorem dX6_odds_272 : decode cX6_odds 272 = .ok (.iload 5, 2) := by decide +kernel
theorem dX6_odds_274 : decode cX6_odds 274 = .ok (.iload 4, 2) := by decide +kernel
theorem dX6_odds_276 : decode cX6_odds 276 = .ok (.invokestatic 171, 3) := by decide +kernel
theorem dX6_odds_279 : decode cX6_odds 279 = .ok (.istore 6, 2) := by decide +kernel
theorem dX6_odds_281 : decode cX6_odds 281 = .ok (.iload_n 2, 1) := by decide +kernel
theorem dX6_odds_282 : decode cX6_odds 282 = .ok (.ifCond .ne 11, 3) := by decide +kernel
theorem dX6_odds_285 : decode cX6_odds 285 = .ok (.iload 5, 2) := by decide +kernel
theorem dX6_odds_287 : decode cX6_odds 287 = .ok (.iload 6, 2) := by decide +kernel
theorem dX6_odds_289 : decode cX6_odds 289 = .ok (.idiv, 1) := by decide +kernel
theorem dX6_odds_290 : decode cX6_odds 290 = .ok (.goto 8, 3) := by decide +kernel
theorem dX6_odds_293 : decode cX6_odds 293 = .ok (.iload 4, 2) := by decide +kernel
theorem dX6_odds_295 : decode cX6_odds 295 = .ok (.iload 6, 2) := by decide +kernel
theorem dX6_odds_297 : decode cX6_odds 297 = .ok (.idiv, 1) := by decide +kernel
theorem dX6_odds_298 : decode cX6_odds 298 = .ok (.ireturn, 1) := by decide +kernel
set_option maxRecDepth 20000 in
theorem ggX6_evening_X6_in : GoodIn wsX6_evening wsX6_in := goodIn_r _ [6] (by decide +kernel) (by decide +kernel)
set_option maxRecDepth 20000 in
theorem gX6_evening_X6_in : GoodIn wsX6_evening (va_wsS RX6 58 yX6_in wsX6_in) := goodIn_app (goodIn_of _ (by decide +kernel)) ggX6_evening_X6_in
set_option maxRecDepth 20000 in
theorem ggX6_evening_X6_lays : GoodIn wsX6_evening wsX6_lays := goodIn_r _ [10, 11, 72, 73, 74, 75, 76, 77, 78, 79, 80, 81, 82, 83, 84, 85, 86] (by decide +kernel) (by decide +kernel)
set_option maxRecDepth 20000 in
theorem gX6_evening_X6_lays : GoodIn wsX6_evening (wsV RX6 152 RX6 yX6_lays wsX6_lays) := goodIn_app (goodIn_of _ (by decide +kernel)) ggX6_evening_X6_lays
set_option maxRecDepth 20000 in
theorem ggX6_evening_X6_laysLeans : GoodIn wsX6_evening wsX6_laysLeans := goodIn_r _ [15, 16, 17, 2, 18, 72, 73, 74, 75, 76, 77, 78, 79, 80, 81, 82, 83, 84, 85, 86] (by decide +kernel) (by decide +kernel)
set_option maxRecDepth 20000 in
theorem gX6_evening_X6_laysLeans : GoodIn wsX6_evening (wsV RX6 155 RX6 yX6_laysLeans wsX6_laysLeans) := goodIn_app (goodIn_of _ (by decide +kernel)) ggX6_evening_X6_laysLeans
set_option maxRecDepth 20000 in
theorem ggX6_evening_X6_rounds : GoodIn wsX6_evening wsX6_rounds := goodIn_r _ [22, 23, 24, 25, 5, 26, 17, 27, 28, 29, 30, 31, 11, 16, 2, 32, 33, 34, 35, 36, 37, 38, 39, 40, 41, 42, 43, 44, 45, 46, 47, 18, 48, 49, 50, 51, 52, 53, 54, 55, 56, 57, 58, 59, 60, 72, 73, 74, 75, 76, 77, 78, 79, 80, 81, 82, 83, 84, 85, 86] (by decide +kernel) (by decide +kernel)
set_option maxRecDepth 20000 in
theorem gX6_evening_X6_rounds : GoodIn wsX6_evening (wsV RX6 177 RX6 yX6_rounds wsX6_rounds) := goodIn_app (goodIn_of _ (by decide +kernel)) ggX6_evening_X6_rounds
set_option maxRecDepth 20000 in
theorem ggX6_evening_X6_spreadOf : GoodIn wsX6_evening wsX6_spreadOf := goodIn_r _ [64, 11, 17, 72, 73, 74, 75, 76, 77, 78, 79, 80, 81, 82, 83, 84, 85, 86] (by decide +kernel) (by decide +kernel)
set_option maxRecDepth 20000 in
theorem gX6_evening_X6_spreadOf : GoodIn wsX6_evening (wsV RX6 165 RX6 yX6_spreadOf wsX6_spreadOf) := goodIn_app (goodIn_of _ (by decide +kernel)) ggX6_evening_X6_spreadOf
set_option maxRecDepth 20000 in
theorem ggX6_evening_X6_heardOf : GoodIn wsX6_evening wsX6_heardOf := goodIn_r _ [68, 17, 11, 69, 70, 5, 71, 72, 73, 74, 75, 76, 77, 78, 79, 80, 81, 82, 83, 84, 85, 86] (by decide +kernel) (by decide +kernel)
set_option maxRecDepth 20000 in
theorem gX6_evening_X6_heardOf : GoodIn wsX6_evening (wsV RX6 168 RX6 yX6_heardOf wsX6_heardOf) := goodIn_app (goodIn_of _ (by decide +kernel)) ggX6_evening_X6_heardOf
theorem dX6_evening_0 : decode cX6_evening 0 = .ok (.iload_n 1, 1) := by decide +kernel
theorem dX6_evening_1 : decode cX6_evening 1 = .ok (.i2l, 1) := by decide +kernel
theorem dX6_evening_2 : decode cX6_evening 2 = .ok (.lconst 0, 1) := by decide +kernel
theorem dX6_evening_3 : decode cX6_evening 3 = .ok (.ldc2_w 191, 3) := by decide +kernel
theorem dX6_evening_6 : decode cX6_evening 6 = .ok (.invokestatic 58, 3) := by decide +kernel
theorem dX6_evening_9 : decode cX6_evening 9 = .ok (.ifCond .eq 13, 3) := by decide +kernel
theorem dX6_evening_12 : decode cX6_evening 12 = .ok (.iload_n 2, 1) := by decide +kernel
theorem dX6_evening_13 : decode cX6_evening 13 = .ok (.i2l, 1) := by decide +kernel
theorem dX6_evening_14 : decode cX6_evening 14 = .ok (.lconst 0, 1) := by decide +kernel
theorem dX6_evening_15 : decode cX6_evening 15 = .ok (.lconst 1, 1) := by decide +kernel
theorem dX6_evening_16 : decode cX6_evening 16 = .ok (.invokestatic 58, 3) := by decide +kernel
theorem dX6_evening_19 : decode cX6_evening 19 = .ok (.ifCond .ne 5, 3) := by decide +kernel
theorem dX6_evening_22 : decode cX6_evening 22 = .ok (.iconst (-1), 1) := by decide +kernel
theorem dX6_evening_23 : decode cX6_evening 23 = .ok (.ireturn, 1) := by decide +kernel
theorem dX6_evening_24 : decode cX6_evening 24 = .ok (.aload_n 0, 1) := by decide +kernel
theorem dX6_evening_25 : decode cX6_evening 25 = .ok (.invokevirtual 152, 3) := by decide +kernel
theorem dX6_evening_28 : decode cX6_evening 28 = .ok (.aload_n 0, 1) := by decide +kernel
theorem dX6_evening_29 : decode cX6_evening 29 = .ok (.invokevirtual 155, 3) := by decide +kernel
theorem dX6_evening_32 : decode cX6_evening 32 = .ok (.aload_n 0, 1) := by decide +kernel
theorem dX6_evening_33 : decode cX6_evening 33 = .ok (.iload_n 1, 1) := by decide +kernel
theorem dX6_evening_34 : decode cX6_evening 34 = .ok (.putfield 100, 3) := by decide +kernel
theorem dX6_evening_37 : decode cX6_evening 37 = .ok (.aload_n 0, 1) := by decide +kernel
theorem dX6_evening_38 : decode cX6_evening 38 = .ok (.invokevirtual 177, 3) := by decide +kernel
theorem dX6_evening_41 : decode cX6_evening 41 = .ok (.pop, 1) := by decide +kernel
theorem dX6_evening_42 : decode cX6_evening 42 = .ok (.aload_n 0, 1) := by decide +kernel
theorem dX6_evening_43 : decode cX6_evening 43 = .ok (.iconst (-1), 1) := by decide +kernel
theorem dX6_evening_44 : decode cX6_evening 44 = .ok (.putfield 100, 3) := by decide +kernel
theorem dX6_evening_47 : decode cX6_evening 47 = .ok (.iload_n 2, 1) := by decide +kernel
theorem dX6_evening_48 : decode cX6_evening 48 = .ok (.ifCond .ne 13, 3) := by decide +kernel
theorem dX6_evening_51 : decode cX6_evening 51 = .ok (.aload_n 0, 1) := by decide +kernel
theorem dX6_evening_52 : decode cX6_evening 52 = .ok (.sipush 198, 3) := by decide +kernel
theorem dX6_evening_55 : decode cX6_evening 55 = .ok (.invokevirtual 165, 3) := by decide +kernel
theorem dX6_evening_58 : decode cX6_evening 58 = .ok (.goto 10, 3) := by decide +kernel
theorem dX6_evening_61 : decode cX6_evening 61 = .ok (.aload_n 0, 1) := by decide +kernel
theorem dX6_evening_62 : decode cX6_evening 62 = .ok (.sipush 198, 3) := by decide +kernel
theorem dX6_evening_65 : decode cX6_evening 65 = .ok (.invokevirtual 168, 3) := by decide +kernel
theorem dX6_evening_68 : decode cX6_evening 68 = .ok (.ireturn, 1) := by decide +kernel
theorem dX6_keep_0 : decode cX6_keep 0 = .ok (.aload_n 0, 1) := by decide +kernel
theorem dX6_keep_1 : decode cX6_keep 1 = .ok (.getfield 48, 3) := by decide +kernel
theorem dX6_keep_4 : decode cX6_keep 4 = .ok (.iconst 2, 1) := by decide +kernel
theorem dX6_keep_5 : decode cX6_keep 5 = .ok (.if_icmp .ne 6, 3) := by decide +kernel
theorem dX6_keep_8 : decode cX6_keep 8 = .ok (.bipush (-3), 2) := by decide +kernel
theorem dX6_keep_10 : decode cX6_keep 10 = .ok (.ireturn, 1) := by decide +kernel
theorem dX6_keep_11 : decode cX6_keep 11 = .ok (.iconst 0, 1) := by decide +kernel
theorem dX6_keep_12 : decode cX6_keep 12 = .ok (.istore_n 1, 1) := by decide +kernel
theorem dX6_keep_13 : decode cX6_keep 13 = .ok (.iload_n 1, 1) := by decide +kernel
theorem dX6_keep_14 : decode cX6_keep 14 = .ok (.bipush 18, 2) := by decide +kernel
theorem dX6_keep_16 : decode cX6_keep 16 = .ok (.if_icmp .ge 32, 3) := by decide +kernel
theorem dX6_keep_19 : decode cX6_keep 19 = .ok (.aload_n 0, 1) := by decide +kernel
theorem dX6_keep_20 : decode cX6_keep 20 = .ok (.getfield 13, 3) := by decide +kernel
theorem dX6_keep_23 : decode cX6_keep 23 = .ok (.bipush 18, 2) := by decide +kernel
theorem dX6_keep_25 : decode cX6_keep 25 = .ok (.bipush 18, 2) := by decide +kernel
theorem dX6_keep_27 : decode cX6_keep 27 = .ok (.aload_n 0, 1) := by decide +kernel
theorem dX6_keep_28 : decode cX6_keep 28 = .ok (.getfield 48, 3) := by decide +kernel
theorem dX6_keep_31 : decode cX6_keep 31 = .ok (.imul, 1) := by decide +kernel
theorem dX6_keep_32 : decode cX6_keep 32 = .ok (.iadd, 1) := by decide +kernel
theorem dX6_keep_33 : decode cX6_keep 33 = .ok (.iload_n 1, 1) := by decide +kernel
theorem dX6_keep_34 : decode cX6_keep 34 = .ok (.iadd, 1) := by decide +kernel
theorem dX6_keep_35 : decode cX6_keep 35 = .ok (.aload_n 0, 1) := by decide +kernel
theorem dX6_keep_36 : decode cX6_keep 36 = .ok (.getfield 13, 3) := by decide +kernel
theorem dX6_keep_39 : decode cX6_keep 39 = .ok (.iload_n 1, 1) := by decide +kernel
theorem dX6_keep_40 : decode cX6_keep 40 = .ok (.iaload, 1) := by decide +kernel
theorem dX6_keep_41 : decode cX6_keep 41 = .ok (.iastore, 1) := by decide +kernel
theorem dX6_keep_42 : decode cX6_keep 42 = .ok (.iinc 1 1, 3) := by decide +kernel
theorem dX6_keep_45 : decode cX6_keep 45 = .ok (.goto (-32), 3) := by decide +kernel
theorem dX6_keep_48 : decode cX6_keep 48 = .ok (.aload_n 0, 1) := by decide +kernel
theorem dX6_keep_49 : decode cX6_keep 49 = .ok (.dup, 1) := by decide +kernel
theorem dX6_keep_50 : decode cX6_keep 50 = .ok (.getfield 48, 3) := by decide +kernel
theorem dX6_keep_53 : decode cX6_keep 53 = .ok (.iconst 1, 1) := by decide +kernel
theorem dX6_keep_54 : decode cX6_keep 54 = .ok (.iadd, 1) := by decide +kernel
theorem dX6_keep_55 : decode cX6_keep 55 = .ok (.putfield 48, 3) := by decide +kernel
theorem dX6_keep_58 : decode cX6_keep 58 = .ok (.aload_n 0, 1) := by decide +kernel
theorem dX6_keep_59 : decode cX6_keep 59 = .ok (.getfield 48, 3) := by decide +kernel
theorem dX6_keep_62 : decode cX6_keep 62 = .ok (.ireturn, 1) := by decide +kernel
theorem dX6_back_0 : decode cX6_back 0 = .ok (.aload_n 0, 1) := by decide +kernel
theorem dX6_back_1 : decode cX6_back 1 = .ok (.getfield 48, 3) := by decide +kernel
theorem dX6_back_4 : decode cX6_back 4 = .ok (.ifCond .ne 6, 3) := by decide +kernel
theorem dX6_back_7 : decode cX6_back 7 = .ok (.bipush (-2), 2) := by decide +kernel
theorem dX6_back_9 : decode cX6_back 9 = .ok (.ireturn, 1) := by decide +kernel
theorem dX6_back_10 : decode cX6_back 10 = .ok (.aload_n 0, 1) := by decide +kernel
theorem dX6_back_11 : decode cX6_back 11 = .ok (.dup, 1) := by decide +kernel
theorem dX6_back_12 : decode cX6_back 12 = .ok (.getfield 48, 3) := by decide +kernel
theorem dX6_back_15 : decode cX6_back 15 = .ok (.iconst 1, 1) := by decide +kernel
theorem dX6_back_16 : decode cX6_back 16 = .ok (.isub, 1) := by decide +kernel
theorem dX6_back_17 : decode cX6_back 17 = .ok (.putfield 48, 3) := by decide +kernel
theorem dX6_back_20 : decode cX6_back 20 = .ok (.iconst 0, 1) := by decide +kernel
theorem dX6_back_21 : decode cX6_back 21 = .ok (.istore_n 1, 1) := by decide +kernel
theorem dX6_back_22 : decode cX6_back 22 = .ok (.iload_n 1, 1) := by decide +kernel
theorem dX6_back_23 : decode cX6_back 23 = .ok (.bipush 18, 2) := by decide +kernel
theorem dX6_back_25 : decode cX6_back 25 = .ok (.if_icmp .ge 32, 3) := by decide +kernel
theorem dX6_back_28 : decode cX6_back 28 = .ok (.aload_n 0, 1) := by decide +kernel
theorem dX6_back_29 : decode cX6_back 29 = .ok (.getfield 13, 3) := by decide +kernel
theorem dX6_back_32 : decode cX6_back 32 = .ok (.iload_n 1, 1) := by decide +kernel
theorem dX6_back_33 : decode cX6_back 33 = .ok (.aload_n 0, 1) := by decide +kernel
theorem dX6_back_34 : decode cX6_back 34 = .ok (.getfield 13, 3) := by decide +kernel
theorem dX6_back_37 : decode cX6_back 37 = .ok (.bipush 18, 2) := by decide +kernel
theorem dX6_back_39 : decode cX6_back 39 = .ok (.bipush 18, 2) := by decide +kernel
theorem dX6_back_41 : decode cX6_back 41 = .ok (.aload_n 0, 1) := by decide +kernel
theorem dX6_back_42 : decode cX6_back 42 = .ok (.getfield 48, 3) := by decide +kernel
theorem dX6_back_45 : decode cX6_back 45 = .ok (.imul, 1) := by decide +kernel
theorem dX6_back_46 : decode cX6_back 46 = .ok (.iadd, 1) := by decide +kernel
theorem dX6_back_47 : decode cX6_back 47 = .ok (.iload_n 1, 1) := by decide +kernel
theorem dX6_back_48 : decode cX6_back 48 = .ok (.iadd, 1) := by decide +kernel
theorem dX6_back_49 : decode cX6_back 49 = .ok (.iaload, 1) := by decide +kernel
theorem dX6_back_50 : decode cX6_back 50 = .ok (.iastore, 1) := by decide +kernel
theorem dX6_back_51 : decode cX6_back 51 = .ok (.iinc 1 1, 3) := by decide +kernel
theorem dX6_back_54 : decode cX6_back 54 = .ok (.goto (-32), 3) := by decide +kernel
theorem dX6_back_57 : decode cX6_back 57 = .ok (.aload_n 0, 1) := by decide +kernel
theorem dX6_back_58 : decode cX6_back 58 = .ok (.iconst 0, 1) := by decide +kernel
theorem dX6_back_59 : decode cX6_back 59 = .ok (.putfield 44, 3) := by decide +kernel
theorem dX6_back_62 : decode cX6_back 62 = .ok (.aload_n 0, 1) := by decide +kernel
theorem dX6_back_63 : decode cX6_back 63 = .ok (.getfield 48, 3) := by decide +kernel
theorem dX6_back_66 : decode cX6_back 66 = .ok (.ireturn, 1) := by decide +kernel
theorem dX6_count_0 : decode cX6_count 0 = .ok (.iload_n 1, 1) := by decide +kernel
theorem dX6_count_1 : decode cX6_count 1 = .ok (.tableswitch 109 0 7 #[47, 54, 62, 81, 86, 91, 96, 101], 47) := by decide +kernel
theorem dX6_count_48 : decode cX6_count 48 = .ok (.aload_n 0, 1) := by decide +kernel
theorem dX6_count_49 : decode cX6_count 49 = .ok (.getfield 7, 3) := by decide +kernel
theorem dX6_count_52 : decode cX6_count 52 = .ok (.iconst 0, 1) := by decide +kernel
theorem dX6_count_53 : decode cX6_count 53 = .ok (.iaload, 1) := by decide +kernel
theorem dX6_count_54 : decode cX6_count 54 = .ok (.ireturn, 1) := by decide +kernel
theorem dX6_count_55 : decode cX6_count 55 = .ok (.aload_n 0, 1) := by decide +kernel
theorem dX6_count_56 : decode cX6_count 56 = .ok (.getfield 13, 3) := by decide +kernel
theorem dX6_count_59 : decode cX6_count 59 = .ok (.bipush 9, 2) := by decide +kernel
theorem dX6_count_61 : decode cX6_count 61 = .ok (.iaload, 1) := by decide +kernel
theorem dX6_count_62 : decode cX6_count 62 = .ok (.ireturn, 1) := by decide +kernel
theorem dX6_count_63 : decode cX6_count 63 = .ok (.aload_n 0, 1) := by decide +kernel
theorem dX6_count_64 : decode cX6_count 64 = .ok (.getfield 7, 3) := by decide +kernel
theorem dX6_count_67 : decode cX6_count 67 = .ok (.bipush 51, 2) := by decide +kernel
theorem dX6_count_69 : decode cX6_count 69 = .ok (.iaload, 1) := by decide +kernel
theorem dX6_count_70 : decode cX6_count 70 = .ok (.aload_n 0, 1) := by decide +kernel
theorem dX6_count_71 : decode cX6_count 71 = .ok (.getfield 13, 3) := by decide +kernel
theorem dX6_count_74 : decode cX6_count 74 = .ok (.bipush 9, 2) := by decide +kernel
theorem dX6_count_76 : decode cX6_count 76 = .ok (.iaload, 1) := by decide +kernel
theorem dX6_count_77 : decode cX6_count 77 = .ok (.bipush 60, 2) := by decide +kernel
theorem dX6_count_79 : decode cX6_count 79 = .ok (.idiv, 1) := by decide +kernel
theorem dX6_count_80 : decode cX6_count 80 = .ok (.imul, 1) := by decide +kernel
theorem dX6_count_81 : decode cX6_count 81 = .ok (.ireturn, 1) := by decide +kernel
theorem dX6_count_82 : decode cX6_count 82 = .ok (.aload_n 0, 1) := by decide +kernel
theorem dX6_count_83 : decode cX6_count 83 = .ok (.getfield 51, 3) := by decide +kernel
theorem dX6_count_86 : decode cX6_count 86 = .ok (.ireturn, 1) := by decide +kernel
theorem dX6_count_87 : decode cX6_count 87 = .ok (.aload_n 0, 1) := by decide +kernel
theorem dX6_count_88 : decode cX6_count 88 = .ok (.getfield 44, 3) := by decide +kernel
theorem dX6_count_91 : decode cX6_count 91 = .ok (.ireturn, 1) := by decide +kernel
theorem dX6_count_92 : decode cX6_count 92 = .ok (.aload_n 0, 1) := by decide +kernel
theorem dX6_count_93 : decode cX6_count 93 = .ok (.getfield 48, 3) := by decide +kernel
theorem dX6_count_96 : decode cX6_count 96 = .ok (.ireturn, 1) := by decide +kernel
theorem dX6_count_97 : decode cX6_count 97 = .ok (.aload_n 0, 1) := by decide +kernel
theorem dX6_count_98 : decode cX6_count 98 = .ok (.getfield 62, 3) := by decide +kernel
theorem dX6_count_101 : decode cX6_count 101 = .ok (.ireturn, 1) := by decide +kernel
theorem dX6_count_102 : decode cX6_count 102 = .ok (.aload_n 0, 1) := by decide +kernel
theorem dX6_count_103 : decode cX6_count 103 = .ok (.getfield 7, 3) := by decide +kernel
theorem dX6_count_106 : decode cX6_count 106 = .ok (.bipush 52, 2) := by decide +kernel
theorem dX6_count_108 : decode cX6_count 108 = .ok (.iaload, 1) := by decide +kernel
theorem dX6_count_109 : decode cX6_count 109 = .ok (.ireturn, 1) := by decide +kernel
theorem dX6_count_110 : decode cX6_count 110 = .ok (.iconst (-1), 1) := by decide +kernel
theorem dX6_count_111 : decode cX6_count 111 = .ok (.ireturn, 1) := by decide +kernel
