set_option maxRecDepth 20000 in
theorem ggX5_init_X3_init : GoodIn wsX5_init wsX3_init := goodIn_r _ [39, 40, 2, 3, 4, 41, 42, 222, 223] (by decide +kernel) (by decide +kernel)
set_option maxRecDepth 20000 in
theorem gX5_init_X3_init_n19 : GoodIn wsX5_init (wsX3_init) := ggX5_init_X3_init
set_option maxRecDepth 20000 in
theorem ggX5_init_X0_init : GoodIn wsX5_init wsX0_init := goodIn_r _ [44, 45, 2, 3, 4, 46, 47, 48, 49, 50, 51, 224, 225, 226, 227, 228, 229, 230, 231, 232, 233, 234] (by decide +kernel) (by decide +kernel)
set_option maxRecDepth 20000 in
theorem gX5_init_X0_init_n26 : GoodIn wsX5_init (wsX0_init) := ggX5_init_X0_init
set_option maxRecDepth 20000 in
theorem ggX5_init_X2_init : GoodIn wsX5_init wsX2_init := goodIn_r _ [53, 54, 2, 3, 4, 55, 56, 235, 236, 237, 238] (by decide +kernel) (by decide +kernel)
set_option maxRecDepth 20000 in
theorem gX5_init_X2_init_n36 : GoodIn wsX5_init (wsX2_init) := ggX5_init_X2_init
set_option maxRecDepth 20000 in
theorem ggX5_init_X1_init : GoodIn wsX5_init wsX1_init := goodIn_r _ [59, 60, 2, 3, 61, 62, 63, 64, 36, 65, 66, 67, 17, 18, 52, 53, 54, 4, 55, 56, 239, 240, 241, 235, 236, 237, 238] (by decide +kernel) (by decide +kernel)
set_option maxRecDepth 20000 in
theorem gX5_init_X1_init : GoodIn wsX5_init (wsX1_init) := ggX5_init_X1_init
set_option maxRecDepth 20000 in
theorem ggX5_init_X4_init : GoodIn wsX5_init wsX4_init := goodIn_r _ [69, 70, 2, 3, 71, 17, 18, 72, 73, 74, 75, 76, 52, 53, 54, 4, 55, 56, 235, 236, 237, 238, 242, 243, 244, 245, 246] (by decide +kernel) (by decide +kernel)
set_option maxRecDepth 20000 in
theorem gX5_init_X4_init_n64 : GoodIn wsX5_init (wsX4_init) := ggX5_init_X4_init
set_option maxRecDepth 20000 in
theorem ggX5_init_J0_length_8abf5 : GoodIn wsX5_init wsJ0_length_8abf5 := goodIn_r _ [81, 82, 83, 84, 85, 80, 86, 87, 88] (by decide +kernel) (by decide +kernel)
set_option maxRecDepth 20000 in
theorem gX5_init_J0_length_8abf5 : GoodIn wsX5_init (wsV RX5 77 RJ0 yJ0_length_8abf5 wsJ0_length_8abf5) := goodIn_app (goodIn_of _ (by decide +kernel)) ggX5_init_J0_length_8abf5
set_option maxRecDepth 20000 in
theorem ggX5_init_J0_charAt_5068e : GoodIn wsX5_init wsJ0_charAt_5068e := goodIn_r _ [92, 82, 93, 94, 95, 80, 96, 87, 88, 97, 98, 99, 100, 101, 102, 103, 104, 105, 106, 107, 108, 109, 110, 111, 112, 113, 114, 115, 116, 117, 118, 119, 120, 121, 122, 123, 124, 125] (by decide +kernel) (by decide +kernel)
set_option maxRecDepth 20000 in
theorem gX5_init_J0_charAt_5068e : GoodIn wsX5_init (wsV RX5 83 RJ0 yJ0_charAt_5068e wsJ0_charAt_5068e) := goodIn_app (goodIn_of _ (by decide +kernel)) ggX5_init_J0_charAt_5068e
set_option maxRecDepth 20000 in
theorem ggX5_init_X5_layText : GoodIn wsX5_init wsX5_layText := goodIn_r _ [130, 10, 15, 5, 6, 14, 19, 23, 24, 27, 131, 132, 133, 134, 9, 135, 136, 35, 36, 37, 42, 137, 138, 139, 13, 140, 141, 142, 143, 144, 145, 146, 147, 148, 149, 150, 151, 152, 153, 154, 155, 156, 157, 158, 159, 160, 41, 161, 129, 162, 163, 164, 165, 166, 167, 168, 169, 170, 171, 172, 173, 174, 175, 176, 177, 178, 179, 180, 46, 47, 48, 49, 50, 51, 181, 182, 183, 184, 185, 186, 187, 188, 189, 190, 191, 192, 193, 194, 195, 196, 18, 197, 198, 55, 199, 56, 200, 201, 202, 203, 204, 205, 206, 22, 207, 62, 208, 209, 210, 211, 212, 213, 214, 215, 216, 217, 218, 219, 220, 221, 224, 225, 226, 227, 228, 229, 230, 231, 232, 233, 234, 222, 223, 235, 236, 237, 238, 239, 240, 241] (by decide +kernel) (by decide +kernel)
set_option maxRecDepth 20000 in
theorem gX5_init_X5_layText : GoodIn wsX5_init (wsV RX5 93 RX5 yX5_layText wsX5_layText) := goodIn_app (goodIn_of _ (by decide +kernel)) ggX5_init_X5_layText
theorem dX5_init_0 : decode cX5_init 0 = .ok (.aload_n 0, 1) := by decide +kernel
theorem dX5_init_1 : decode cX5_init 1 = .ok (.invokespecial 1, 3) := by decide +kernel
theorem dX5_init_4 : decode cX5_init 4 = .ok (.aload_n 0, 1) := by decide +kernel
theorem dX5_init_5 : decode cX5_init 5 = .ok (.sipush 200, 3) := by decide +kernel
theorem dX5_init_8 : decode cX5_init 8 = .ok (.newarray .int, 2) := by decide +kernel
theorem dX5_init_10 : decode cX5_init 10 = .ok (.putfield 9, 3) := by decide +kernel
theorem dX5_init_13 : decode cX5_init 13 = .ok (.aload_n 0, 1) := by decide +kernel
theorem dX5_init_14 : decode cX5_init 14 = .ok (.iconst 0, 1) := by decide +kernel
theorem dX5_init_15 : decode cX5_init 15 = .ok (.putfield 13, 3) := by decide +kernel
theorem dX5_init_18 : decode cX5_init 18 = .ok (.aload_n 0, 1) := by decide +kernel
theorem dX5_init_19 : decode cX5_init 19 = .ok (.new 17, 3) := by decide +kernel
theorem dX5_init_22 : decode cX5_init 22 = .ok (.dup, 1) := by decide +kernel
theorem dX5_init_23 : decode cX5_init 23 = .ok (.invokespecial 19, 3) := by decide +kernel
theorem dX5_init_26 : decode cX5_init 26 = .ok (.putfield 20, 3) := by decide +kernel
theorem dX5_init_29 : decode cX5_init 29 = .ok (.aload_n 0, 1) := by decide +kernel
theorem dX5_init_30 : decode cX5_init 30 = .ok (.new 24, 3) := by decide +kernel
theorem dX5_init_33 : decode cX5_init 33 = .ok (.dup, 1) := by decide +kernel
theorem dX5_init_34 : decode cX5_init 34 = .ok (.invokespecial 26, 3) := by decide +kernel
theorem dX5_init_37 : decode cX5_init 37 = .ok (.putfield 27, 3) := by decide +kernel
theorem dX5_init_40 : decode cX5_init 40 = .ok (.aload_n 0, 1) := by decide +kernel
theorem dX5_init_41 : decode cX5_init 41 = .ok (.new 24, 3) := by decide +kernel
theorem dX5_init_44 : decode cX5_init 44 = .ok (.dup, 1) := by decide +kernel
theorem dX5_init_45 : decode cX5_init 45 = .ok (.invokespecial 26, 3) := by decide +kernel
theorem dX5_init_48 : decode cX5_init 48 = .ok (.putfield 31, 3) := by decide +kernel
theorem dX5_init_51 : decode cX5_init 51 = .ok (.aload_n 0, 1) := by decide +kernel
theorem dX5_init_52 : decode cX5_init 52 = .ok (.new 34, 3) := by decide +kernel
theorem dX5_init_55 : decode cX5_init 55 = .ok (.dup, 1) := by decide +kernel
theorem dX5_init_56 : decode cX5_init 56 = .ok (.invokespecial 36, 3) := by decide +kernel
theorem dX5_init_59 : decode cX5_init 59 = .ok (.putfield 37, 3) := by decide +kernel
theorem dX5_init_62 : decode cX5_init 62 = .ok (.aload_n 0, 1) := by decide +kernel
theorem dX5_init_63 : decode cX5_init 63 = .ok (.new 41, 3) := by decide +kernel
theorem dX5_init_66 : decode cX5_init 66 = .ok (.dup, 1) := by decide +kernel
theorem dX5_init_67 : decode cX5_init 67 = .ok (.bipush 8, 2) := by decide +kernel
theorem dX5_init_69 : decode cX5_init 69 = .ok (.invokespecial 43, 3) := by decide +kernel
theorem dX5_init_72 : decode cX5_init 72 = .ok (.putfield 46, 3) := by decide +kernel
theorem dX5_init_75 : decode cX5_init 75 = .ok (.aload_n 0, 1) := by decide +kernel
theorem dX5_init_76 : decode cX5_init 76 = .ok (.new 41, 3) := by decide +kernel
theorem dX5_init_79 : decode cX5_init 79 = .ok (.dup, 1) := by decide +kernel
theorem dX5_init_80 : decode cX5_init 80 = .ok (.iconst 2, 1) := by decide +kernel
theorem dX5_init_81 : decode cX5_init 81 = .ok (.invokespecial 43, 3) := by decide +kernel
theorem dX5_init_84 : decode cX5_init 84 = .ok (.putfield 50, 3) := by decide +kernel
theorem dX5_init_87 : decode cX5_init 87 = .ok (.aload_n 0, 1) := by decide +kernel
theorem dX5_init_88 : decode cX5_init 88 = .ok (.bipush 8, 2) := by decide +kernel
theorem dX5_init_90 : decode cX5_init 90 = .ok (.newarray .int, 2) := by decide +kernel
theorem dX5_init_92 : decode cX5_init 92 = .ok (.putfield 53, 3) := by decide +kernel
theorem dX5_init_95 : decode cX5_init 95 = .ok (.aload_n 0, 1) := by decide +kernel
theorem dX5_init_96 : decode cX5_init 96 = .ok (.bipush 8, 2) := by decide +kernel
theorem dX5_init_98 : decode cX5_init 98 = .ok (.newarray .int, 2) := by decide +kernel
theorem dX5_init_100 : decode cX5_init 100 = .ok (.putfield 56, 3) := by decide +kernel
theorem dX5_init_103 : decode cX5_init 103 = .ok (.aload_n 0, 1) := by decide +kernel
theorem dX5_init_104 : decode cX5_init 104 = .ok (.iconst 0, 1) := by decide +kernel
theorem dX5_init_105 : decode cX5_init 105 = .ok (.putfield 59, 3) := by decide +kernel
theorem dX5_init_108 : decode cX5_init 108 = .ok (.aload_n 0, 1) := by decide +kernel
theorem dX5_init_109 : decode cX5_init 109 = .ok (.new 62, 3) := by decide +kernel
theorem dX5_init_112 : decode cX5_init 112 = .ok (.dup, 1) := by decide +kernel
theorem dX5_init_113 : decode cX5_init 113 = .ok (.invokespecial 64, 3) := by decide +kernel
theorem dX5_init_116 : decode cX5_init 116 = .ok (.putfield 65, 3) := by decide +kernel
theorem dX5_init_119 : decode cX5_init 119 = .ok (.aload_n 0, 1) := by decide +kernel
theorem dX5_init_120 : decode cX5_init 120 = .ok (.new 34, 3) := by decide +kernel
theorem dX5_init_123 : decode cX5_init 123 = .ok (.dup, 1) := by decide +kernel
theorem dX5_init_124 : decode cX5_init 124 = .ok (.invokespecial 36, 3) := by decide +kernel
theorem dX5_init_127 : decode cX5_init 127 = .ok (.putfield 69, 3) := by decide +kernel
theorem dX5_init_130 : decode cX5_init 130 = .ok (.aload_n 0, 1) := by decide +kernel
theorem dX5_init_131 : decode cX5_init 131 = .ok (.new 62, 3) := by decide +kernel
theorem dX5_init_134 : decode cX5_init 134 = .ok (.dup, 1) := by decide +kernel
theorem dX5_init_135 : decode cX5_init 135 = .ok (.invokespecial 64, 3) := by decide +kernel
theorem dX5_init_138 : decode cX5_init 138 = .ok (.putfield 72, 3) := by decide +kernel
theorem dX5_init_141 : decode cX5_init 141 = .ok (.iconst 0, 1) := by decide +kernel
theorem dX5_init_142 : decode cX5_init 142 = .ok (.istore_n 1, 1) := by decide +kernel
theorem dX5_init_143 : decode cX5_init 143 = .ok (.iload_n 1, 1) := by decide +kernel
theorem dX5_init_144 : decode cX5_init 144 = .ok (.ldc 75, 2) := by decide +kernel
theorem dX5_init_146 : decode cX5_init 146 = .ok (.invokevirtual 77, 3) := by decide +kernel
theorem dX5_init_149 : decode cX5_init 149 = .ok (.if_icmp .ge 28, 3) := by decide +kernel
theorem dX5_init_152 : decode cX5_init 152 = .ok (.iload_n 1, 1) := by decide +kernel
theorem dX5_init_153 : decode cX5_init 153 = .ok (.sipush 200, 3) := by decide +kernel
theorem dX5_init_156 : decode cX5_init 156 = .ok (.if_icmp .ge 21, 3) := by decide +kernel
theorem dX5_init_159 : decode cX5_init 159 = .ok (.aload_n 0, 1) := by decide +kernel
theorem dX5_init_160 : decode cX5_init 160 = .ok (.getfield 9, 3) := by decide +kernel
theorem dX5_init_163 : decode cX5_init 163 = .ok (.iload_n 1, 1) := by decide +kernel
theorem dX5_init_164 : decode cX5_init 164 = .ok (.ldc 75, 2) := by decide +kernel
theorem dX5_init_166 : decode cX5_init 166 = .ok (.iload_n 1, 1) := by decide +kernel
theorem dX5_init_167 : decode cX5_init 167 = .ok (.invokevirtual 83, 3) := by decide +kernel
theorem dX5_init_170 : decode cX5_init 170 = .ok (.iastore, 1) := by decide +kernel
theorem dX5_init_171 : decode cX5_init 171 = .ok (.iinc 1 1, 3) := by decide +kernel
theorem dX5_init_174 : decode cX5_init 174 = .ok (.goto (-31), 3) := by decide +kernel
theorem dX5_init_177 : decode cX5_init 177 = .ok (.aload_n 0, 1) := by decide +kernel
theorem dX5_init_178 : decode cX5_init 178 = .ok (.ldc 75, 2) := by decide +kernel
theorem dX5_init_180 : decode cX5_init 180 = .ok (.invokevirtual 77, 3) := by decide +kernel
theorem dX5_init_183 : decode cX5_init 183 = .ok (.sipush 200, 3) := by decide +kernel
theorem dX5_init_186 : decode cX5_init 186 = .ok (.invokestatic 87, 3) := by decide +kernel
theorem dX5_init_189 : decode cX5_init 189 = .ok (.putfield 13, 3) := by decide +kernel
theorem dX5_init_192 : decode cX5_init 192 = .ok (.aload_n 0, 1) := by decide +kernel
theorem dX5_init_193 : decode cX5_init 193 = .ok (.invokevirtual 93, 3) := by decide +kernel
theorem dX5_init_196 : decode cX5_init 196 = .ok (.pop, 1) := by decide +kernel
theorem dX5_init_197 : decode cX5_init 197 = .ok (.aload_n 0, 1) := by decide +kernel
theorem dX5_init_198 : decode cX5_init 198 = .ok (.iconst 0, 1) := by decide +kernel
theorem dX5_init_199 : decode cX5_init 199 = .ok (.putfield 13, 3) := by decide +kernel
theorem dX5_init_202 : decode cX5_init 202 = .ok (.return_, 1) := by decide +kernel
set_option maxRecDepth 20000 in
theorem ggX5_write_X5_isFrom : GoodIn wsX5_write wsX5_isFrom := goodIn_r _ [6] (by decide +kernel) (by decide +kernel)
set_option maxRecDepth 20000 in
theorem gX5_write_X5_isFrom : GoodIn wsX5_write (va_wsS RX5 96 yX5_isFrom wsX5_isFrom) := goodIn_app (goodIn_of _ (by decide +kernel)) ggX5_write_X5_isFrom
theorem dX5_write_0 : decode cX5_write 0 = .ok (.iload_n 1, 1) := by decide +kernel
theorem dX5_write_1 : decode cX5_write 1 = .ok (.bipush 32, 2) := by decide +kernel
theorem dX5_write_3 : decode cX5_write 3 = .ok (.bipush 126, 2) := by decide +kernel
theorem dX5_write_5 : decode cX5_write 5 = .ok (.invokestatic 96, 3) := by decide +kernel
theorem dX5_write_8 : decode cX5_write 8 = .ok (.ifCond .ne 5, 3) := by decide +kernel
theorem dX5_write_11 : decode cX5_write 11 = .ok (.iconst (-1), 1) := by decide +kernel
theorem dX5_write_12 : decode cX5_write 12 = .ok (.ireturn, 1) := by decide +kernel
theorem dX5_write_13 : decode cX5_write 13 = .ok (.aload_n 0, 1) := by decide +kernel
theorem dX5_write_14 : decode cX5_write 14 = .ok (.getfield 13, 3) := by decide +kernel
theorem dX5_write_17 : decode cX5_write 17 = .ok (.sipush 200, 3) := by decide +kernel
theorem dX5_write_20 : decode cX5_write 20 = .ok (.if_icmp .lt 6, 3) := by decide +kernel
theorem dX5_write_23 : decode cX5_write 23 = .ok (.bipush (-3), 2) := by decide +kernel
theorem dX5_write_25 : decode cX5_write 25 = .ok (.ireturn, 1) := by decide +kernel
theorem dX5_write_26 : decode cX5_write 26 = .ok (.aload_n 0, 1) := by decide +kernel
theorem dX5_write_27 : decode cX5_write 27 = .ok (.getfield 9, 3) := by decide +kernel
theorem dX5_write_30 : decode cX5_write 30 = .ok (.aload_n 0, 1) := by decide +kernel
theorem dX5_write_31 : decode cX5_write 31 = .ok (.getfield 13, 3) := by decide +kernel
theorem dX5_write_34 : decode cX5_write 34 = .ok (.iload_n 1, 1) := by decide +kernel
theorem dX5_write_35 : decode cX5_write 35 = .ok (.iastore, 1) := by decide +kernel
theorem dX5_write_36 : decode cX5_write 36 = .ok (.aload_n 0, 1) := by decide +kernel
theorem dX5_write_37 : decode cX5_write 37 = .ok (.dup, 1) := by decide +kernel
theorem dX5_write_38 : decode cX5_write 38 = .ok (.getfield 13, 3) := by decide +kernel
theorem dX5_write_41 : decode cX5_write 41 = .ok (.iconst 1, 1) := by decide +kernel
theorem dX5_write_42 : decode cX5_write 42 = .ok (.iadd, 1) := by decide +kernel
theorem dX5_write_43 : decode cX5_write 43 = .ok (.putfield 13, 3) := by decide +kernel
theorem dX5_write_46 : decode cX5_write 46 = .ok (.aload_n 0, 1) := by decide +kernel
theorem dX5_write_47 : decode cX5_write 47 = .ok (.getfield 13, 3) := by decide +kernel
theorem dX5_write_50 : decode cX5_write 50 = .ok (.ireturn, 1) := by decide +kernel
theorem dX5_wipe_0 : decode cX5_wipe 0 = .ok (.aload_n 0, 1) := by decide +kernel
theorem dX5_wipe_1 : decode cX5_wipe 1 = .ok (.getfield 13, 3) := by decide +kernel
theorem dX5_wipe_4 : decode cX5_wipe 4 = .ok (.istore_n 1, 1) := by decide +kernel
theorem dX5_wipe_5 : decode cX5_wipe 5 = .ok (.aload_n 0, 1) := by decide +kernel
theorem dX5_wipe_6 : decode cX5_wipe 6 = .ok (.iconst 0, 1) := by decide +kernel
theorem dX5_wipe_7 : decode cX5_wipe 7 = .ok (.putfield 13, 3) := by decide +kernel
theorem dX5_wipe_10 : decode cX5_wipe 10 = .ok (.iload_n 1, 1) := by decide +kernel
theorem dX5_wipe_11 : decode cX5_wipe 11 = .ok (.ireturn, 1) := by decide +kernel
set_option maxRecDepth 20000 in
theorem ggX5_fault_X3_readInto : GoodIn wsX5_fault wsX3_readInto := goodIn_r _ [9, 10, 11, 12, 13, 14, 15, 16, 17, 18, 19, 20, 21, 22, 23, 24, 25, 26, 27, 8, 28, 29, 30, 31, 32, 33, 34, 35, 36, 37, 38, 39, 40, 41, 42, 43, 44, 45, 46, 47, 48, 49, 50, 51, 52, 53, 54, 55, 56, 57, 58, 59, 60, 61, 62, 63, 64, 65, 66, 67, 68, 69, 70, 71, 86, 87, 88, 89, 90, 91, 92, 93, 94, 95, 96, 97, 98] (by decide +kernel) (by decide +kernel)
set_option maxRecDepth 20000 in
theorem gX5_fault_X3_readInto : GoodIn wsX5_fault (wsV RX5 100 RX3 yX3_readInto wsX3_readInto) := goodIn_app (goodIn_of _ (by decide +kernel)) ggX5_fault_X3_readInto
theorem dX5_fault_0 : decode cX5_fault 0 = .ok (.aload_n 0, 1) := by decide +kernel
theorem dX5_fault_1 : decode cX5_fault 1 = .ok (.getfield 20, 3) := by decide +kernel
theorem dX5_fault_4 : decode cX5_fault 4 = .ok (.aload_n 0, 1) := by decide +kernel
theorem dX5_fault_5 : decode cX5_fault 5 = .ok (.getfield 31, 3) := by decide +kernel
theorem dX5_fault_8 : decode cX5_fault 8 = .ok (.aload_n 0, 1) := by decide +kernel
theorem dX5_fault_9 : decode cX5_fault 9 = .ok (.getfield 9, 3) := by decide +kernel
theorem dX5_fault_12 : decode cX5_fault 12 = .ok (.aload_n 0, 1) := by decide +kernel
theorem dX5_fault_13 : decode cX5_fault 13 = .ok (.getfield 13, 3) := by decide +kernel
theorem dX5_fault_16 : decode cX5_fault 16 = .ok (.invokevirtual 100, 3) := by decide +kernel
theorem dX5_fault_19 : decode cX5_fault 19 = .ok (.ireturn, 1) := by decide +kernel
set_option maxRecDepth 20000 in
theorem ggX5_lay_X5_layText : GoodIn wsX5_lay wsX5_layText := goodIn_r _ [5, 6, 7, 8, 9, 10, 11, 12, 13, 14, 15, 16, 17, 18, 19, 20, 21, 22, 23, 24, 25, 26, 27, 28, 29, 30, 31, 32, 33, 34, 35, 36, 37, 38, 39, 40, 41, 42, 43, 44, 45, 46, 47, 48, 49, 50, 51, 52, 4, 53, 54, 55, 56, 57, 58, 59, 60, 61, 62, 63, 64, 65, 66, 67, 68, 69, 70, 71, 72, 73, 74, 75, 76, 77, 78, 79, 80, 81, 82, 83, 84, 85, 86, 87, 88, 89, 90, 91, 92, 93, 94, 95, 96, 97, 98, 99, 100, 101, 102, 103, 104, 105, 106, 107, 108, 109, 110, 111, 112, 113, 114, 115, 116, 117, 118, 119, 120, 121, 122, 123, 124, 125, 126, 127, 128, 129, 130, 131, 132, 133, 134, 135, 136, 137, 138, 139, 140, 141, 142, 143] (by decide +kernel) (by decide +kernel)
set_option maxRecDepth 20000 in
theorem gX5_lay_X5_layText : GoodIn wsX5_lay (wsV RX5 93 RX5 yX5_layText wsX5_layText) := goodIn_app (goodIn_of _ (by decide +kernel)) ggX5_lay_X5_layText
theorem dX5_lay_0 : decode cX5_lay 0 = .ok (.aload_n 0, 1) := by decide +kernel
theorem dX5_lay_1 : decode cX5_lay 1 = .ok (.invokevirtual 93, 3) := by decide +kernel
theorem dX5_lay_4 : decode cX5_lay 4 = .ok (.ireturn, 1) := by decide +kernel
set_option maxRecDepth 20000 in
theorem ggX5_desk_X0_hasDesk : GoodIn wsX5_desk wsX0_hasDesk := goodIn_r _ [12, 13, 28, 29, 30, 31, 32, 33, 34, 35, 36, 37, 38] (by decide +kernel) (by decide +kernel)
set_option maxRecDepth 20000 in
theorem gX5_desk_X0_hasDesk : GoodIn wsX5_desk (wsV RX5 104 RX0 yX0_hasDesk wsX0_hasDesk) := goodIn_app (goodIn_of _ (by decide +kernel)) ggX5_desk_X0_hasDesk
theorem dX5_desk_0 : decode cX5_desk 0 = .ok (.aload_n 0, 1) := by decide +kernel
theorem dX5_desk_1 : decode cX5_desk 1 = .ok (.getfield 27, 3) := by decide +kernel
theorem dX5_desk_4 : decode cX5_desk 4 = .ok (.iload_n 1, 1) := by decide +kernel
theorem dX5_desk_5 : decode cX5_desk 5 = .ok (.invokevirtual 104, 3) := by decide +kernel
theorem dX5_desk_8 : decode cX5_desk 8 = .ok (.ifCond .ne 5, 3) := by decide +kernel
theorem dX5_desk_11 : decode cX5_desk 11 = .ok (.iconst (-1), 1) := by decide +kernel
theorem dX5_desk_12 : decode cX5_desk 12 = .ok (.ireturn, 1) := by decide +kernel
theorem dX5_desk_13 : decode cX5_desk 13 = .ok (.iload_n 2, 1) := by decide +kernel
theorem dX5_desk_14 : decode cX5_desk 14 = .ok (.tableswitch 84 0 4 #[34, 44, 54, 64, 74], 34) := by decide +kernel
theorem dX5_desk_48 : decode cX5_desk 48 = .ok (.aload_n 0, 1) := by decide +kernel
theorem dX5_desk_49 : decode cX5_desk 49 = .ok (.getfield 27, 3) := by decide +kernel
theorem dX5_desk_52 : decode cX5_desk 52 = .ok (.getfield 108, 3) := by decide +kernel
theorem dX5_desk_55 : decode cX5_desk 55 = .ok (.iload_n 1, 1) := by decide +kernel
theorem dX5_desk_56 : decode cX5_desk 56 = .ok (.iaload, 1) := by decide +kernel
theorem dX5_desk_57 : decode cX5_desk 57 = .ok (.ireturn, 1) := by decide +kernel
theorem dX5_desk_58 : decode cX5_desk 58 = .ok (.aload_n 0, 1) := by decide +kernel
theorem dX5_desk_59 : decode cX5_desk 59 = .ok (.getfield 27, 3) := by decide +kernel
theorem dX5_desk_62 : decode cX5_desk 62 = .ok (.getfield 111, 3) := by decide +kernel
theorem dX5_desk_65 : decode cX5_desk 65 = .ok (.iload_n 1, 1) := by decide +kernel
theorem dX5_desk_66 : decode cX5_desk 66 = .ok (.iaload, 1) := by decide +kernel
theorem dX5_desk_67 : decode cX5_desk 67 = .ok (.ireturn, 1) := by decide +kernel
theorem dX5_desk_68 : decode cX5_desk 68 = .ok (.aload_n 0, 1) := by decide +kernel
theorem dX5_desk_69 : decode cX5_desk 69 = .ok (.getfield 27, 3) := by decide +kernel
theorem dX5_desk_72 : decode cX5_desk 72 = .ok (.getfield 114, 3) := by decide +kernel
theorem dX5_desk_75 : decode cX5_desk 75 = .ok (.iload_n 1, 1) := by decide +kernel
theorem dX5_desk_76 : decode cX5_desk 76 = .ok (.iaload, 1) := by decide +kernel
theorem dX5_desk_77 : decode cX5_desk 77 = .ok (.ireturn, 1) := by decide +kernel
theorem dX5_desk_78 : decode cX5_desk 78 = .ok (.aload_n 0, 1) := by decide +kernel
theorem dX5_desk_79 : decode cX5_desk 79 = .ok (.getfield 37, 3) := by decide +kernel
theorem dX5_desk_82 : decode cX5_desk 82 = .ok (.getfield 117, 3) := by decide +kernel
theorem dX5_desk_85 : decode cX5_desk 85 = .ok (.iload_n 1, 1) := by decide +kernel
theorem dX5_desk_86 : decode cX5_desk 86 = .ok (.iaload, 1) := by decide +kernel
theorem dX5_desk_87 : decode cX5_desk 87 = .ok (.ireturn, 1) := by decide +kernel
theorem dX5_desk_88 : decode cX5_desk 88 = .ok (.aload_n 0, 1) := by decide +kernel
theorem dX5_desk_89 : decode cX5_desk 89 = .ok (.getfield 27, 3) := by decide +kernel
theorem dX5_desk_92 : decode cX5_desk 92 = .ok (.getfield 120, 3) := by decide +kernel
theorem dX5_desk_95 : decode cX5_desk 95 = .ok (.iload_n 1, 1) := by decide +kernel
theorem dX5_desk_96 : decode cX5_desk 96 = .ok (.iaload, 1) := by decide +kernel
theorem dX5_desk_97 : decode cX5_desk 97 = .ok (.ireturn, 1) := by decide +kernel
theorem dX5_desk_98 : decode cX5_desk 98 = .ok (.iconst (-1), 1) := by decide +kernel
theorem dX5_desk_99 : decode cX5_desk 99 = .ok (.ireturn, 1) := by decide +kernel
set_option maxRecDepth 20000 in
theorem ggX5_off_X0_hasDesk : GoodIn wsX5_off wsX0_hasDesk := goodIn_r _ [9, 10, 29, 30, 31, 32, 33, 34, 35, 36, 37, 38, 39] (by decide +kernel) (by decide +kernel)
set_option maxRecDepth 20000 in
theorem gX5_off_X0_hasDesk : GoodIn wsX5_off (wsV RX5 104 RX0 yX0_hasDesk wsX0_hasDesk) := goodIn_app (goodIn_of _ (by decide +kernel)) ggX5_off_X0_hasDesk
theorem dX5_off_0 : decode cX5_off 0 = .ok (.iload_n 1, 1) := by decide +kernel
theorem dX5_off_1 : decode cX5_off 1 = .ok (.bipush 9, 2) := by decide +kernel
theorem dX5_off_3 : decode cX5_off 3 = .ok (.if_icmp .ne 15, 3) := by decide +kernel
theorem dX5_off_6 : decode cX5_off 6 = .ok (.aload_n 0, 1) := by decide +kernel
theorem dX5_off_7 : decode cX5_off 7 = .ok (.getfield 37, 3) := by decide +kernel
theorem dX5_off_10 : decode cX5_off 10 = .ok (.getfield 123, 3) := by decide +kernel
theorem dX5_off_13 : decode cX5_off 13 = .ok (.sipush 1000, 3) := by decide +kernel
theorem dX5_off_16 : decode cX5_off 16 = .ok (.iadd, 1) := by decide +kernel
theorem dX5_off_17 : decode cX5_off 17 = .ok (.ireturn, 1) := by decide +kernel
theorem dX5_off_18 : decode cX5_off 18 = .ok (.aload_n 0, 1) := by decide +kernel
theorem dX5_off_19 : decode cX5_off 19 = .ok (.getfield 27, 3) := by decide +kernel
theorem dX5_off_22 : decode cX5_off 22 = .ok (.iload_n 1, 1) := by decide +kernel
theorem dX5_off_23 : decode cX5_off 23 = .ok (.invokevirtual 104, 3) := by decide +kernel
theorem dX5_off_26 : decode cX5_off 26 = .ok (.ifCond .ne 5, 3) := by decide +kernel
theorem dX5_off_29 : decode cX5_off 29 = .ok (.iconst (-1), 1) := by decide +kernel
theorem dX5_off_30 : decode cX5_off 30 = .ok (.ireturn, 1) := by decide +kernel
theorem dX5_off_31 : decode cX5_off 31 = .ok (.aload_n 0, 1) := by decide +kernel
theorem dX5_off_32 : decode cX5_off 32 = .ok (.getfield 37, 3) := by decide +kernel
theorem dX5_off_35 : decode cX5_off 35 = .ok (.getfield 126, 3) := by decide +kernel
theorem dX5_off_38 : decode cX5_off 38 = .ok (.iload_n 1, 1) := by decide +kernel
theorem dX5_off_39 : decode cX5_off 39 = .ok (.iaload, 1) := by decide +kernel
theorem dX5_off_40 : decode cX5_off 40 = .ok (.sipush 1000, 3) := by decide +kernel
theorem dX5_off_43 : decode cX5_off 43 = .ok (.iadd, 1) := by decide +kernel
theorem dX5_off_44 : decode cX5_off 44 = .ok (.ireturn, 1) := by decide +kernel
set_option maxRecDepth 20000 in
theorem ggX5_tune_X5_isSomeSet : GoodIn wsX5_tune wsX5_isSomeSet := goodIn_r _ [9, 4, 10, 11, 12, 13, 14, 15, 16, 17, 8, 18, 114, 115, 116, 117, 118, 119, 120, 121, 122, 123, 124, 125, 126, 127, 128, 129, 130, 131, 132, 133, 134, 135, 136, 137, 138] (by decide +kernel) (by decide +kernel)
set_option maxRecDepth 20000 in
theorem gX5_tune_X5_isSomeSet : GoodIn wsX5_tune (wsV RX5 129 RX5 yX5_isSomeSet wsX5_isSomeSet) := goodIn_app (goodIn_of _ (by decide +kernel)) ggX5_tune_X5_isSomeSet
set_option maxRecDepth 20000 in
theorem ggX5_tune_X1_put : GoodIn wsX5_tune wsX1_put := goodIn_r _ [23, 24, 25, 26, 27, 28, 29, 30, 31, 32, 33, 34, 35, 36, 37, 38, 39, 139, 140, 141, 142, 143, 144, 145] (by decide +kernel) (by decide +kernel)
set_option maxRecDepth 20000 in
theorem gX5_tune_X1_put : GoodIn wsX5_tune (wsV RX5 132 RX1 yX1_put wsX1_put) := goodIn_app (goodIn_of _ (by decide +kernel)) ggX5_tune_X1_put
set_option maxRecDepth 20000 in
theorem ggX5_tune_X4_letTune : GoodIn wsX5_tune wsX4_letTune := goodIn_r _ [44, 45, 46, 47, 48, 49, 50, 29, 51, 52, 53, 54, 55, 56, 57, 13, 58, 15, 59, 60, 8, 61, 62, 63, 64, 65, 66, 67, 68, 69, 32, 33, 34, 35, 36, 37, 38, 39, 70, 71, 72, 43, 73, 74, 75, 76, 77, 78, 79, 80, 81, 82, 83, 84, 85, 86, 87, 88, 89, 90, 91, 92, 93, 94, 95, 96, 97, 98, 99, 100, 101, 102, 28, 30, 103, 104, 105, 106, 107, 108, 109, 110, 111, 112, 113, 146, 147, 148, 149, 150, 128, 129, 130, 131, 132, 133, 134, 135, 136, 137, 138, 142, 143, 144, 145] (by decide +kernel) (by decide +kernel)
set_option maxRecDepth 20000 in
theorem gX5_tune_X4_letTune : GoodIn wsX5_tune (wsV RX5 136 RX4 yX4_letTune wsX4_letTune) := goodIn_app (goodIn_of _ (by decide +kernel)) ggX5_tune_X4_letTune
theorem dX5_tune_0 : decode cX5_tune 0 = .ok (.aload_n 0, 1) := by decide +kernel
theorem dX5_tune_1 : decode cX5_tune 1 = .ok (.iload_n 1, 1) := by decide +kernel
theorem dX5_tune_2 : decode cX5_tune 2 = .ok (.invokevirtual 129, 3) := by decide +kernel
theorem dX5_tune_5 : decode cX5_tune 5 = .ok (.ifCond .ne 5, 3) := by decide +kernel
theorem dX5_tune_8 : decode cX5_tune 8 = .ok (.iconst (-1), 1) := by decide +kernel
theorem dX5_tune_9 : decode cX5_tune 9 = .ok (.ireturn, 1) := by decide +kernel
theorem dX5_tune_10 : decode cX5_tune 10 = .ok (.aload_n 0, 1) := by decide +kernel
theorem dX5_tune_11 : decode cX5_tune 11 = .ok (.getfield 46, 3) := by decide +kernel
theorem dX5_tune_14 : decode cX5_tune 14 = .ok (.aload_n 0, 1) := by decide +kernel
theorem dX5_tune_15 : decode cX5_tune 15 = .ok (.getfield 37, 3) := by decide +kernel
theorem dX5_tune_18 : decode cX5_tune 18 = .ok (.invokevirtual 132, 3) := by decide +kernel
theorem dX5_tune_21 : decode cX5_tune 21 = .ok (.aload_n 0, 1) := by decide +kernel
theorem dX5_tune_22 : decode cX5_tune 22 = .ok (.getfield 65, 3) := by decide +kernel
theorem dX5_tune_25 : decode cX5_tune 25 = .ok (.aload_n 0, 1) := by decide +kernel
theorem dX5_tune_26 : decode cX5_tune 26 = .ok (.getfield 27, 3) := by decide +kernel
theorem dX5_tune_29 : decode cX5_tune 29 = .ok (.aload_n 0, 1) := by decide +kernel
theorem dX5_tune_30 : decode cX5_tune 30 = .ok (.getfield 37, 3) := by decide +kernel
theorem dX5_tune_33 : decode cX5_tune 33 = .ok (.iload_n 1, 1) := by decide +kernel
theorem dX5_tune_34 : decode cX5_tune 34 = .ok (.invokevirtual 136, 3) := by decide +kernel
theorem dX5_tune_37 : decode cX5_tune 37 = .ok (.ireturn, 1) := by decide +kernel
set_option maxRecDepth 20000 in
theorem ggX5_minutes_X5_isFrom : GoodIn wsX5_minutes wsX5_isFrom := goodIn_r _ [9] (by decide +kernel) (by decide +kernel)
set_option maxRecDepth 20000 in
theorem gX5_minutes_X5_isFrom : GoodIn wsX5_minutes (va_wsS RX5 96 yX5_isFrom wsX5_isFrom) := goodIn_app (goodIn_of _ (by decide +kernel)) ggX5_minutes_X5_isFrom
set_option maxRecDepth 20000 in
theorem ggX5_minutes_X1_put : GoodIn wsX5_minutes wsX1_put := goodIn_r _ [14, 15, 16, 17, 18, 19, 20, 21, 22, 23, 24, 25, 26, 27, 28, 29, 30, 72, 73, 74, 68, 69, 70, 71] (by decide +kernel) (by decide +kernel)
set_option maxRecDepth 20000 in
theorem gX5_minutes_X1_put : GoodIn wsX5_minutes (wsV RX5 132 RX1 yX1_put wsX1_put) := goodIn_app (goodIn_of _ (by decide +kernel)) ggX5_minutes_X1_put
set_option maxRecDepth 20000 in
theorem ggX5_minutes_X2_letPass : GoodIn wsX5_minutes wsX2_letPass := goodIn_r _ [34, 30, 35, 36, 27, 37, 38, 39, 40, 41, 42, 43, 44, 45, 46, 47, 48, 8, 49, 50, 19, 20, 21, 51, 52, 53, 68, 69, 70, 71, 75, 76, 77, 78, 79, 80, 81, 82, 83, 84, 85] (by decide +kernel) (by decide +kernel)
set_option maxRecDepth 20000 in
theorem gX5_minutes_X2_letPass : GoodIn wsX5_minutes (wsV RX5 144 RX2 yX2_letPass wsX2_letPass) := goodIn_app (goodIn_of _ (by decide +kernel)) ggX5_minutes_X2_letPass
theorem dX5_minutes_0 : decode cX5_minutes 0 = .ok (.iload_n 1, 1) := by decide +kernel
theorem dX5_minutes_1 : decode cX5_minutes 1 = .ok (.iconst 1, 1) := by decide +kernel
theorem dX5_minutes_2 : decode cX5_minutes 2 = .ok (.bipush 60, 2) := by decide +kernel
theorem dX5_minutes_4 : decode cX5_minutes 4 = .ok (.invokestatic 96, 3) := by decide +kernel
theorem dX5_minutes_7 : decode cX5_minutes 7 = .ok (.ifCond .ne 5, 3) := by decide +kernel
theorem dX5_minutes_10 : decode cX5_minutes 10 = .ok (.iconst (-1), 1) := by decide +kernel
theorem dX5_minutes_11 : decode cX5_minutes 11 = .ok (.ireturn, 1) := by decide +kernel
theorem dX5_minutes_12 : decode cX5_minutes 12 = .ok (.aload_n 0, 1) := by decide +kernel
theorem dX5_minutes_13 : decode cX5_minutes 13 = .ok (.getfield 37, 3) := by decide +kernel
theorem dX5_minutes_16 : decode cX5_minutes 16 = .ok (.getfield 140, 3) := by decide +kernel
theorem dX5_minutes_19 : decode cX5_minutes 19 = .ok (.iload_n 1, 1) := by decide +kernel
theorem dX5_minutes_20 : decode cX5_minutes 20 = .ok (.bipush 60, 2) := by decide +kernel
theorem dX5_minutes_22 : decode cX5_minutes 22 = .ok (.imul, 1) := by decide +kernel
theorem dX5_minutes_23 : decode cX5_minutes 23 = .ok (.iadd, 1) := by decide +kernel
theorem dX5_minutes_24 : decode cX5_minutes 24 = .ok (.ldc 143, 2) := by decide +kernel
theorem dX5_minutes_26 : decode cX5_minutes 26 = .ok (.if_icmp .le 6, 3) := by decide +kernel
theorem dX5_minutes_29 : decode cX5_minutes 29 = .ok (.bipush (-2), 2) := by decide +kernel
theorem dX5_minutes_31 : decode cX5_minutes 31 = .ok (.ireturn, 1) := by decide +kernel
theorem dX5_minutes_32 : decode cX5_minutes 32 = .ok (.aload_n 0, 1) := by decide +kernel
theorem dX5_minutes_33 : decode cX5_minutes 33 = .ok (.getfield 46, 3) := by decide +kernel
theorem dX5_minutes_36 : decode cX5_minutes 36 = .ok (.aload_n 0, 1) := by decide +kernel
theorem dX5_minutes_37 : decode cX5_minutes 37 = .ok (.getfield 37, 3) := by decide +kernel
theorem dX5_minutes_40 : decode cX5_minutes 40 = .ok (.invokevirtual 132, 3) := by decide +kernel
theorem dX5_minutes_43 : decode cX5_minutes 43 = .ok (.aload_n 0, 1) := by decide +kernel
theorem dX5_minutes_44 : decode cX5_minutes 44 = .ok (.getfield 37, 3) := by decide +kernel
theorem dX5_minutes_47 : decode cX5_minutes 47 = .ok (.aload_n 0, 1) := by decide +kernel
theorem dX5_minutes_48 : decode cX5_minutes 48 = .ok (.getfield 27, 3) := by decide +kernel
theorem dX5_minutes_51 : decode cX5_minutes 51 = .ok (.iload_n 1, 1) := by decide +kernel
theorem dX5_minutes_52 : decode cX5_minutes 52 = .ok (.bipush 60, 2) := by decide +kernel
theorem dX5_minutes_54 : decode cX5_minutes 54 = .ok (.imul, 1) := by decide +kernel
theorem dX5_minutes_55 : decode cX5_minutes 55 = .ok (.invokevirtual 144, 3) := by decide +kernel
theorem dX5_minutes_58 : decode cX5_minutes 58 = .ok (.aload_n 0, 1) := by decide +kernel
theorem dX5_minutes_59 : decode cX5_minutes 59 = .ok (.getfield 37, 3) := by decide +kernel
theorem dX5_minutes_62 : decode cX5_minutes 62 = .ok (.getfield 140, 3) := by decide +kernel
theorem dX5_minutes_65 : decode cX5_minutes 65 = .ok (.ireturn, 1) := by decide +kernel
set_option maxRecDepth 20000 in
theorem ggX5_hear_X0_hasDesk : GoodIn wsX5_hear wsX0_hasDesk := goodIn_r _ [9, 10, 55, 56, 57, 58, 59, 60, 61, 62, 63, 64, 65] (by decide +kernel) (by decide +kernel)
set_option maxRecDepth 20000 in
theorem gX5_hear_X0_hasDesk : GoodIn wsX5_hear (wsV RX5 104 RX0 yX0_hasDesk wsX0_hasDesk) := goodIn_app (goodIn_of _ (by decide +kernel)) ggX5_hear_X0_hasDesk
set_option maxRecDepth 20000 in
theorem ggX5_hear_X0_canHear : GoodIn wsX5_hear wsX0_canHear := goodIn_r _ [14, 15, 6, 7, 8, 9, 10, 55, 56, 57, 58, 59, 60, 61, 62, 63, 64, 65] (by decide +kernel) (by decide +kernel)
set_option maxRecDepth 20000 in
theorem gX5_hear_X0_canHear : GoodIn wsX5_hear (wsV RX5 148 RX0 yX0_canHear wsX0_canHear) := goodIn_app (goodIn_of _ (by decide +kernel)) ggX5_hear_X0_canHear
set_option maxRecDepth 20000 in
theorem ggX5_hear_X1_put : GoodIn wsX5_hear wsX1_put := goodIn_r _ [20, 21, 22, 23, 24, 25, 26, 27, 28, 29, 30, 31, 32, 33, 34, 35, 36, 66, 67, 68, 51, 52, 53, 54] (by decide +kernel) (by decide +kernel)
set_option maxRecDepth 20000 in
theorem gX5_hear_X1_put : GoodIn wsX5_hear (wsV RX5 132 RX1 yX1_put wsX1_put) := goodIn_app (goodIn_of _ (by decide +kernel)) ggX5_hear_X1_put
theorem dX5_hear_0 : decode cX5_hear 0 = .ok (.aload_n 0, 1) := by decide +kernel
theorem dX5_hear_1 : decode cX5_hear 1 = .ok (.getfield 27, 3) := by decide +kernel
theorem dX5_hear_4 : decode cX5_hear 4 = .ok (.iload_n 1, 1) := by decide +kernel
theorem dX5_hear_5 : decode cX5_hear 5 = .ok (.invokevirtual 104, 3) := by decide +kernel
theorem dX5_hear_8 : decode cX5_hear 8 = .ok (.ifCond .eq 15, 3) := by decide +kernel
theorem dX5_hear_11 : decode cX5_hear 11 = .ok (.aload_n 0, 1) := by decide +kernel
theorem dX5_hear_12 : decode cX5_hear 12 = .ok (.getfield 27, 3) := by decide +kernel
theorem dX5_hear_15 : decode cX5_hear 15 = .ok (.iload_n 1, 1) := by decide +kernel
theorem dX5_hear_16 : decode cX5_hear 16 = .ok (.iload_n 2, 1) := by decide +kernel
theorem dX5_hear_17 : decode cX5_hear 17 = .ok (.invokevirtual 148, 3) := by decide +kernel
theorem dX5_hear_20 : decode cX5_hear 20 = .ok (.ifCond .ne 5, 3) := by decide +kernel
theorem dX5_hear_23 : decode cX5_hear 23 = .ok (.iconst (-1), 1) := by decide +kernel
theorem dX5_hear_24 : decode cX5_hear 24 = .ok (.ireturn, 1) := by decide +kernel
theorem dX5_hear_25 : decode cX5_hear 25 = .ok (.aload_n 0, 1) := by decide +kernel
theorem dX5_hear_26 : decode cX5_hear 26 = .ok (.getfield 46, 3) := by decide +kernel
theorem dX5_hear_29 : decode cX5_hear 29 = .ok (.aload_n 0, 1) := by decide +kernel
theorem dX5_hear_30 : decode cX5_hear 30 = .ok (.getfield 37, 3) := by decide +kernel
theorem dX5_hear_33 : decode cX5_hear 33 = .ok (.invokevirtual 132, 3) := by decide +kernel
theorem dX5_hear_36 : decode cX5_hear 36 = .ok (.aload_n 0, 1) := by decide +kernel
theorem dX5_hear_37 : decode cX5_hear 37 = .ok (.getfield 37, 3) := by decide +kernel
theorem dX5_hear_40 : decode cX5_hear 40 = .ok (.getfield 117, 3) := by decide +kernel
theorem dX5_hear_43 : decode cX5_hear 43 = .ok (.iload_n 1, 1) := by decide +kernel
theorem dX5_hear_44 : decode cX5_hear 44 = .ok (.iaload, 1) := by decide +kernel
theorem dX5_hear_45 : decode cX5_hear 45 = .ok (.istore_n 3, 1) := by decide +kernel
theorem dX5_hear_46 : decode cX5_hear 46 = .ok (.aload_n 0, 1) := by decide +kernel
theorem dX5_hear_47 : decode cX5_hear 47 = .ok (.getfield 37, 3) := by decide +kernel
theorem dX5_hear_50 : decode cX5_hear 50 = .ok (.getfield 117, 3) := by decide +kernel
theorem dX5_hear_53 : decode cX5_hear 53 = .ok (.iload_n 1, 1) := by decide +kernel
theorem dX5_hear_54 : decode cX5_hear 54 = .ok (.iload_n 2, 1) := by decide +kernel
theorem dX5_hear_55 : decode cX5_hear 55 = .ok (.iastore, 1) := by decide +kernel
theorem dX5_hear_56 : decode cX5_hear 56 = .ok (.iload_n 3, 1) := by decide +kernel
theorem dX5_hear_57 : decode cX5_hear 57 = .ok (.ireturn, 1) := by decide +kernel
set_option maxRecDepth 20000 in
theorem ggX5_undo_X1_takeInto : GoodIn wsX5_undo wsX1_takeInto := goodIn_r _ [8, 9, 10, 11, 12, 13, 14, 15, 16, 17, 18, 19, 20, 35, 36, 37, 38, 39, 40, 41] (by decide +kernel) (by decide +kernel)
set_option maxRecDepth 20000 in
theorem gX5_undo_X1_takeInto : GoodIn wsX5_undo (wsV RX5 152 RX1 yX1_takeInto wsX1_takeInto) := goodIn_app (goodIn_of _ (by decide +kernel)) ggX5_undo_X1_takeInto
theorem dX5_undo_0 : decode cX5_undo 0 = .ok (.aload_n 0, 1) := by decide +kernel
theorem dX5_undo_1 : decode cX5_undo 1 = .ok (.getfield 46, 3) := by decide +kernel
theorem dX5_undo_4 : decode cX5_undo 4 = .ok (.aload_n 0, 1) := by decide +kernel
theorem dX5_undo_5 : decode cX5_undo 5 = .ok (.getfield 37, 3) := by decide +kernel
theorem dX5_undo_8 : decode cX5_undo 8 = .ok (.invokevirtual 152, 3) := by decide +kernel
theorem dX5_undo_11 : decode cX5_undo 11 = .ok (.ifCond .ne 6, 3) := by decide +kernel
theorem dX5_undo_14 : decode cX5_undo 14 = .ok (.bipush (-2), 2) := by decide +kernel
theorem dX5_undo_16 : decode cX5_undo 16 = .ok (.ireturn, 1) := by decide +kernel
theorem dX5_undo_17 : decode cX5_undo 17 = .ok (.aload_n 0, 1) := by decide +kernel
theorem dX5_undo_18 : decode cX5_undo 18 = .ok (.getfield 46, 3) := by decide +kernel
theorem dX5_undo_21 : decode cX5_undo 21 = .ok (.getfield 156, 3) := by decide +kernel
theorem dX5_undo_24 : decode cX5_undo 24 = .ok (.ireturn, 1) := by decide +kernel
set_option maxRecDepth 20000 in
theorem ggX5_spread_X2_apart : GoodIn wsX5_spread wsX2_apart := goodIn_r _ [8, 9, 10, 11, 12, 13, 14, 15, 16, 42, 43, 44, 45] (by decide +kernel) (by decide +kernel)
set_option maxRecDepth 20000 in
theorem gX5_spread_X2_apart : GoodIn wsX5_spread (wsV RX5 162 RX2 yX2_apart wsX2_apart) := goodIn_app (goodIn_of _ (by decide +kernel)) ggX5_spread_X2_apart
theorem dX5_spread_0 : decode cX5_spread 0 = .ok (.aload_n 0, 1) := by decide +kernel
theorem dX5_spread_1 : decode cX5_spread 1 = .ok (.getfield 37, 3) := by decide +kernel
theorem dX5_spread_4 : decode cX5_spread 4 = .ok (.aload_n 0, 1) := by decide +kernel
theorem dX5_spread_5 : decode cX5_spread 5 = .ok (.getfield 27, 3) := by decide +kernel
theorem dX5_spread_8 : decode cX5_spread 8 = .ok (.getfield 159, 3) := by decide +kernel
theorem dX5_spread_11 : decode cX5_spread 11 = .ok (.invokevirtual 162, 3) := by decide +kernel
theorem dX5_spread_14 : decode cX5_spread 14 = .ok (.ireturn, 1) := by decide +kernel
set_option maxRecDepth 20000 in
theorem ggX5_heard_X2_twosHeard : GoodIn wsX5_heard wsX2_twosHeard := goodIn_r _ [7, 8, 9, 10, 11, 12, 13, 14, 29, 30, 31, 32, 33, 34, 35, 36, 37, 38, 39, 40, 41, 42, 43] (by decide +kernel) (by decide +kernel)
set_option maxRecDepth 20000 in
theorem gX5_heard_X2_twosHeard : GoodIn wsX5_heard (wsV RX5 166 RX2 yX2_twosHeard wsX2_twosHeard) := goodIn_app (goodIn_of _ (by decide +kernel)) ggX5_heard_X2_twosHeard
theorem dX5_heard_0 : decode cX5_heard 0 = .ok (.aload_n 0, 1) := by decide +kernel
theorem dX5_heard_1 : decode cX5_heard 1 = .ok (.getfield 37, 3) := by decide +kernel
theorem dX5_heard_4 : decode cX5_heard 4 = .ok (.aload_n 0, 1) := by decide +kernel
theorem dX5_heard_5 : decode cX5_heard 5 = .ok (.getfield 27, 3) := by decide +kernel
theorem dX5_heard_8 : decode cX5_heard 8 = .ok (.invokevirtual 166, 3) := by decide +kernel
theorem dX5_heard_11 : decode cX5_heard 11 = .ok (.ireturn, 1) := by decide +kernel
set_option maxRecDepth 20000 in
theorem ggX5_mean_X5_isFrom : GoodIn wsX5_mean wsX5_isFrom := goodIn_r _ [8] (by decide +kernel) (by decide +kernel)
set_option maxRecDepth 20000 in
theorem gX5_mean_X5_isFrom : GoodIn wsX5_mean (va_wsS RX5 96 yX5_isFrom wsX5_isFrom) := goodIn_app (goodIn_of _ (by decide +kernel)) ggX5_mean_X5_isFrom
set_option maxRecDepth 20000 in
theorem ggX5_mean_X5_partOfFraction : GoodIn wsX5_mean wsX5_partOfFraction := goodIn_r _ [11, 12, 13, 14, 15, 16, 17, 7, 18] (by decide +kernel) (by decide +kernel)
set_option maxRecDepth 20000 in
theorem gX5_mean_X5_partOfFraction : GoodIn wsX5_mean (va_wsS RX5 170 yX5_partOfFraction wsX5_partOfFraction) := goodIn_app (goodIn_of _ (by decide +kernel)) ggX5_mean_X5_partOfFraction
theorem dX5_mean_0 : decode cX5_mean 0 = .ok (.iload_n 1, 1) := by decide +kernel
theorem dX5_mean_1 : decode cX5_mean 1 = .ok (.iconst 0, 1) := by decide +kernel
theorem dX5_mean_2 : decode cX5_mean 2 = .ok (.iconst 1, 1) := by decide +kernel
theorem dX5_mean_3 : decode cX5_mean 3 = .ok (.invokestatic 96, 3) := by decide +kernel
theorem dX5_mean_6 : decode cX5_mean 6 = .ok (.ifCond .ne 5, 3) := by decide +kernel
theorem dX5_mean_9 : decode cX5_mean 9 = .ok (.iconst (-1), 1) := by decide +kernel
theorem dX5_mean_10 : decode cX5_mean 10 = .ok (.ireturn, 1) := by decide +kernel
theorem dX5_mean_11 : decode cX5_mean 11 = .ok (.aload_n 0, 1) := by decide +kernel
theorem dX5_mean_12 : decode cX5_mean 12 = .ok (.getfield 27, 3) := by decide +kernel
theorem dX5_mean_15 : decode cX5_mean 15 = .ok (.getfield 159, 3) := by decide +kernel
theorem dX5_mean_18 : decode cX5_mean 18 = .ok (.sipush 1000, 3) := by decide +kernel
theorem dX5_mean_21 : decode cX5_mean 21 = .ok (.imul, 1) := by decide +kernel
theorem dX5_mean_22 : decode cX5_mean 22 = .ok (.istore_n 2, 1) := by decide +kernel
theorem dX5_mean_23 : decode cX5_mean 23 = .ok (.iconst 0, 1) := by decide +kernel
theorem dX5_mean_24 : decode cX5_mean 24 = .ok (.istore_n 3, 1) := by decide +kernel
theorem dX5_mean_25 : decode cX5_mean 25 = .ok (.iload_n 3, 1) := by decide +kernel
theorem dX5_mean_26 : decode cX5_mean 26 = .ok (.aload_n 0, 1) := by decide +kernel
theorem dX5_mean_27 : decode cX5_mean 27 = .ok (.getfield 27, 3) := by decide +kernel
theorem dX5_mean_30 : decode cX5_mean 30 = .ok (.getfield 159, 3) := by decide +kernel
theorem dX5_mean_33 : decode cX5_mean 33 = .ok (.if_icmp .ge 21, 3) := by decide +kernel
theorem dX5_mean_36 : decode cX5_mean 36 = .ok (.iload_n 2, 1) := by decide +kernel
theorem dX5_mean_37 : decode cX5_mean 37 = .ok (.aload_n 0, 1) := by decide +kernel
theorem dX5_mean_38 : decode cX5_mean 38 = .ok (.getfield 37, 3) := by decide +kernel
theorem dX5_mean_41 : decode cX5_mean 41 = .ok (.getfield 126, 3) := by decide +kernel
theorem dX5_mean_44 : decode cX5_mean 44 = .ok (.iload_n 3, 1) := by decide +kernel
theorem dX5_mean_45 : decode cX5_mean 45 = .ok (.iaload, 1) := by decide +kernel
theorem dX5_mean_46 : decode cX5_mean 46 = .ok (.iadd, 1) := by decide +kernel
theorem dX5_mean_47 : decode cX5_mean 47 = .ok (.istore_n 2, 1) := by decide +kernel
theorem dX5_mean_48 : decode cX5_mean 48 = .ok (.iinc 3 1, 3) := by decide +kernel
theorem dX5_mean_51 : decode cX5_mean 51 = .ok (.goto (-26), 3) := by decide +kernel
theorem dX5_mean_54 : decode cX5_mean 54 = .ok (.iload_n 2, 1) := by decide +kernel
theorem dX5_mean_55 : decode cX5_mean 55 = .ok (.aload_n 0, 1) := by decide +kernel
theorem dX5_mean_56 : decode cX5_mean 56 = .ok (.getfield 27, 3) := by decide +kernel
theorem dX5_mean_59 : decode cX5_mean 59 = .ok (.getfield 159, 3) := by decide +kernel
theorem dX5_mean_62 : decode cX5_mean 62 = .ok (.iload_n 1, 1) := by decide +kernel
theorem dX5_mean_63 : decode cX5_mean 63 = .ok (.invokestatic 170, 3) := by decide +kernel
theorem dX5_mean_66 : decode cX5_mean 66 = .ok (.ireturn, 1) := by decide +kernel
set_option maxRecDepth 20000 in
theorem ggX5_round_X0_hasDesk : GoodIn wsX5_round wsX0_hasDesk := goodIn_r _ [9, 10, 134, 135, 136, 137, 138, 139, 140, 141, 142, 143, 144] (by decide +kernel) (by decide +kernel)
set_option maxRecDepth 20000 in
theorem gX5_round_X0_hasDesk : GoodIn wsX5_round (wsV RX5 104 RX0 yX0_hasDesk wsX0_hasDesk) := goodIn_app (goodIn_of _ (by decide +kernel)) ggX5_round_X0_hasDesk
set_option maxRecDepth 20000 in
theorem ggX5_round_X5_startTrial : GoodIn wsX5_round wsX5_startTrial := goodIn_r _ [15, 3, 16, 2, 17, 18, 19, 20, 21, 22, 23, 24, 25, 26, 27, 28, 29, 30, 31, 32, 120, 121, 122, 123, 124, 125, 126, 127, 128, 129, 130, 131, 132, 133, 145, 146, 147, 148, 149, 150, 151, 152, 153] (by decide +kernel) (by decide +kernel)
set_option maxRecDepth 20000 in
theorem gX5_round_X5_startTrial : GoodIn wsX5_round (wsV RX5 174 RX5 yX5_startTrial wsX5_startTrial) := goodIn_app (goodIn_of _ (by decide +kernel)) ggX5_round_X5_startTrial
set_option maxRecDepth 20000 in
theorem ggX5_round_X4_letGroupsTune : GoodIn wsX5_round wsX4_letGroupsTune := goodIn_r _ [36, 37, 38, 39, 8, 40, 10, 41, 42, 43, 44, 29, 45, 46, 47, 48, 49, 50, 51, 52, 53, 54, 55, 56, 57, 58, 59, 60, 61, 62, 14, 63, 64, 65, 66, 67, 68, 69, 70, 71, 18, 19, 20, 21, 22, 23, 24, 25, 72, 73, 74, 75, 31, 76, 6, 7, 9, 77, 78, 79, 80, 81, 82, 83, 84, 85, 86, 87, 88, 89, 90, 32, 91, 92, 93, 94, 95, 96, 97, 98, 99, 100, 101, 102, 103, 104, 105, 106, 107, 108, 109, 110, 111, 112, 134, 135, 136, 137, 138, 139, 140, 141, 142, 143, 144, 149, 150, 151, 152, 153, 145, 146, 147, 148] (by decide +kernel) (by decide +kernel)
set_option maxRecDepth 20000 in
theorem gX5_round_X4_letGroupsTune : GoodIn wsX5_round (wsV RX5 177 RX4 yX4_letGroupsTune wsX4_letGroupsTune) := goodIn_app (goodIn_of _ (by decide +kernel)) ggX5_round_X4_letGroupsTune
set_option maxRecDepth 20000 in
theorem ggX5_round_X2_apart : GoodIn wsX5_round wsX2_apart := goodIn_r _ [116, 22, 117, 51, 52, 53, 118, 100, 101, 145, 146, 147, 148] (by decide +kernel) (by decide +kernel)
set_option maxRecDepth 20000 in
theorem gX5_round_X2_apart : GoodIn wsX5_round (wsV RX5 162 RX2 yX2_apart wsX2_apart) := goodIn_app (goodIn_of _ (by decide +kernel)) ggX5_round_X2_apart
set_option maxRecDepth 20000 in
theorem ggX5_round_X2_pitchOf : GoodIn wsX5_round wsX2_pitchOf := goodIn_r _ [86, 24, 22, 145, 146, 147, 148] (by decide +kernel) (by decide +kernel)
set_option maxRecDepth 20000 in
theorem gX5_round_X2_pitchOf : GoodIn wsX5_round (wsV RX5 181 RX2 yX2_pitchOf wsX2_pitchOf) := goodIn_app (goodIn_of _ (by decide +kernel)) ggX5_round_X2_pitchOf
theorem dX5_round_0 : decode cX5_round 0 = .ok (.iload_n 1, 1) := by decide +kernel
theorem dX5_round_1 : decode cX5_round 1 = .ok (.iconst (-1), 1) := by decide +kernel
theorem dX5_round_2 : decode cX5_round 2 = .ok (.if_icmp .eq 22, 3) := by decide +kernel
theorem dX5_round_5 : decode cX5_round 5 = .ok (.iload_n 1, 1) := by decide +kernel
theorem dX5_round_6 : decode cX5_round 6 = .ok (.bipush (-2), 2) := by decide +kernel
theorem dX5_round_8 : decode cX5_round 8 = .ok (.if_icmp .eq 16, 3) := by decide +kernel
theorem dX5_round_11 : decode cX5_round 11 = .ok (.aload_n 0, 1) := by decide +kernel
theorem dX5_round_12 : decode cX5_round 12 = .ok (.getfield 27, 3) := by decide +kernel
theorem dX5_round_15 : decode cX5_round 15 = .ok (.iload_n 1, 1) := by decide +kernel
theorem dX5_round_16 : decode cX5_round 16 = .ok (.invokevirtual 104, 3) := by decide +kernel
theorem dX5_round_19 : decode cX5_round 19 = .ok (.ifCond .ne 5, 3) := by decide +kernel
theorem dX5_round_22 : decode cX5_round 22 = .ok (.iconst (-1), 1) := by decide +kernel
theorem dX5_round_23 : decode cX5_round 23 = .ok (.ireturn, 1) := by decide +kernel
theorem dX5_round_24 : decode cX5_round 24 = .ok (.aload_n 0, 1) := by decide +kernel
theorem dX5_round_25 : decode cX5_round 25 = .ok (.invokevirtual 174, 3) := by decide +kernel
theorem dX5_round_28 : decode cX5_round 28 = .ok (.aload_n 0, 1) := by decide +kernel
theorem dX5_round_29 : decode cX5_round 29 = .ok (.getfield 72, 3) := by decide +kernel
theorem dX5_round_32 : decode cX5_round 32 = .ok (.aload_n 0, 1) := by decide +kernel
theorem dX5_round_33 : decode cX5_round 33 = .ok (.getfield 27, 3) := by decide +kernel
theorem dX5_round_36 : decode cX5_round 36 = .ok (.aload_n 0, 1) := by decide +kernel
theorem dX5_round_37 : decode cX5_round 37 = .ok (.getfield 69, 3) := by decide +kernel
theorem dX5_round_40 : decode cX5_round 40 = .ok (.invokevirtual 177, 3) := by decide +kernel
theorem dX5_round_43 : decode cX5_round 43 = .ok (.istore_n 2, 1) := by decide +kernel
theorem dX5_round_44 : decode cX5_round 44 = .ok (.iload_n 1, 1) := by decide +kernel
theorem dX5_round_45 : decode cX5_round 45 = .ok (.iconst (-1), 1) := by decide +kernel
theorem dX5_round_46 : decode cX5_round 46 = .ok (.if_icmp .ne 18, 3) := by decide +kernel
theorem dX5_round_49 : decode cX5_round 49 = .ok (.aload_n 0, 1) := by decide +kernel
theorem dX5_round_50 : decode cX5_round 50 = .ok (.getfield 69, 3) := by decide +kernel
theorem dX5_round_53 : decode cX5_round 53 = .ok (.aload_n 0, 1) := by decide +kernel
theorem dX5_round_54 : decode cX5_round 54 = .ok (.getfield 27, 3) := by decide +kernel
theorem dX5_round_57 : decode cX5_round 57 = .ok (.getfield 159, 3) := by decide +kernel
theorem dX5_round_60 : decode cX5_round 60 = .ok (.invokevirtual 162, 3) := by decide +kernel
theorem dX5_round_63 : decode cX5_round 63 = .ok (.ireturn, 1) := by decide +kernel
theorem dX5_round_64 : decode cX5_round 64 = .ok (.iload_n 1, 1) := by decide +kernel
theorem dX5_round_65 : decode cX5_round 65 = .ok (.bipush (-2), 2) := by decide +kernel
theorem dX5_round_67 : decode cX5_round 67 = .ok (.if_icmp .ne 5, 3) := by decide +kernel
theorem dX5_round_70 : decode cX5_round 70 = .ok (.iload_n 2, 1) := by decide +kernel
theorem dX5_round_71 : decode cX5_round 71 = .ok (.ireturn, 1) := by decide +kernel
theorem dX5_round_72 : decode cX5_round 72 = .ok (.aload_n 0, 1) := by decide +kernel
theorem dX5_round_73 : decode cX5_round 73 = .ok (.getfield 69, 3) := by decide +kernel
theorem dX5_round_76 : decode cX5_round 76 = .ok (.iload_n 1, 1) := by decide +kernel
theorem dX5_round_77 : decode cX5_round 77 = .ok (.invokevirtual 181, 3) := by decide +kernel
theorem dX5_round_80 : decode cX5_round 80 = .ok (.sipush 1000, 3) := by decide +kernel
theorem dX5_round_83 : decode cX5_round 83 = .ok (.iadd, 1) := by decide +kernel
theorem dX5_round_84 : decode cX5_round 84 = .ok (.ireturn, 1) := by decide +kernel
set_option maxRecDepth 20000 in
theorem ggX5_halves_X5_isFrom : GoodIn wsX5_halves wsX5_isFrom := goodIn_r _ [9] (by decide +kernel) (by decide +kernel)
set_option maxRecDepth 20000 in
theorem gX5_halves_X5_isFrom : GoodIn wsX5_halves (va_wsS RX5 96 yX5_isFrom wsX5_isFrom) := goodIn_app (goodIn_of _ (by decide +kernel)) ggX5_halves_X5_isFrom
set_option maxRecDepth 20000 in
theorem ggX5_halves_X0_allDesks : GoodIn wsX5_halves wsX0_allDesks := goodIn_r _ [14, 15, 131, 132, 133, 134, 135, 136, 137, 138, 139, 140, 141] (by decide +kernel) (by decide +kernel)
set_option maxRecDepth 20000 in
theorem gX5_halves_X0_allDesks : GoodIn wsX5_halves (wsV RX5 184 RX0 yX0_allDesks wsX0_allDesks) := goodIn_app (goodIn_of _ (by decide +kernel)) ggX5_halves_X0_allDesks
set_option maxRecDepth 20000 in
theorem ggX5_halves_X5_startTrial : GoodIn wsX5_halves wsX5_startTrial := goodIn_r _ [19, 4, 20, 3, 21, 22, 23, 24, 25, 26, 27, 28, 29, 30, 31, 32, 33, 34, 35, 36, 117, 118, 119, 120, 121, 122, 123, 124, 125, 126, 127, 128, 129, 130, 142, 143, 144, 145, 146, 147, 148, 149, 150] (by decide +kernel) (by decide +kernel)
set_option maxRecDepth 20000 in
theorem gX5_halves_X5_startTrial : GoodIn wsX5_halves (wsV RX5 174 RX5 yX5_startTrial wsX5_startTrial) := goodIn_app (goodIn_of _ (by decide +kernel)) ggX5_halves_X5_startTrial
set_option maxRecDepth 20000 in
theorem ggX5_halves_X4_letTune : GoodIn wsX5_halves wsX4_letTune := goodIn_r _ [40, 41, 42, 43, 44, 45, 46, 47, 48, 49, 50, 51, 52, 53, 54, 13, 55, 15, 56, 57, 8, 58, 59, 60, 61, 62, 63, 64, 65, 66, 22, 23, 24, 25, 26, 27, 28, 29, 67, 68, 69, 33, 70, 35, 71, 72, 73, 74, 75, 76, 77, 78, 79, 80, 81, 82, 83, 84, 85, 86, 87, 88, 36, 89, 90, 91, 92, 93, 94, 95, 96, 97, 98, 99, 100, 101, 102, 103, 104, 105, 106, 107, 108, 109, 110, 146, 147, 148, 149, 150, 131, 132, 133, 134, 135, 136, 137, 138, 139, 140, 141, 142, 143, 144, 145] (by decide +kernel) (by decide +kernel)
set_option maxRecDepth 20000 in
theorem gX5_halves_X4_letTune : GoodIn wsX5_halves (wsV RX5 136 RX4 yX4_letTune wsX4_letTune) := goodIn_app (goodIn_of _ (by decide +kernel)) ggX5_halves_X4_letTune
set_option maxRecDepth 20000 in
theorem ggX5_halves_X2_apart : GoodIn wsX5_halves wsX2_apart := goodIn_r _ [114, 26, 115, 46, 47, 48, 116, 98, 99, 142, 143, 144, 145] (by decide +kernel) (by decide +kernel)
set_option maxRecDepth 20000 in
theorem gX5_halves_X2_apart : GoodIn wsX5_halves (wsV RX5 162 RX2 yX2_apart wsX2_apart) := goodIn_app (goodIn_of _ (by decide +kernel)) ggX5_halves_X2_apart
theorem dX5_halves_0 : decode cX5_halves 0 = .ok (.iload_n 1, 1) := by decide +kernel
theorem dX5_halves_1 : decode cX5_halves 1 = .ok (.iconst 0, 1) := by decide +kernel
theorem dX5_halves_2 : decode cX5_halves 2 = .ok (.iconst 2, 1) := by decide +kernel
theorem dX5_halves_3 : decode cX5_halves 3 = .ok (.invokestatic 96, 3) := by decide +kernel
theorem dX5_halves_6 : decode cX5_halves 6 = .ok (.ifCond .ne 5, 3) := by decide +kernel
theorem dX5_halves_9 : decode cX5_halves 9 = .ok (.iconst (-1), 1) := by decide +kernel
theorem dX5_halves_10 : decode cX5_halves 10 = .ok (.ireturn, 1) := by decide +kernel
theorem dX5_halves_11 : decode cX5_halves 11 = .ok (.aload_n 0, 1) := by decide +kernel
theorem dX5_halves_12 : decode cX5_halves 12 = .ok (.getfield 27, 3) := by decide +kernel
theorem dX5_halves_15 : decode cX5_halves 15 = .ok (.invokevirtual 184, 3) := by decide +kernel
theorem dX5_halves_18 : decode cX5_halves 18 = .ok (.istore_n 2, 1) := by decide +kernel
theorem dX5_halves_19 : decode cX5_halves 19 = .ok (.iconst 0, 1) := by decide +kernel
theorem dX5_halves_20 : decode cX5_halves 20 = .ok (.istore_n 3, 1) := by decide +kernel
theorem dX5_halves_21 : decode cX5_halves 21 = .ok (.ldc 187, 2) := by decide +kernel
theorem dX5_halves_23 : decode cX5_halves 23 = .ok (.istore 4, 2) := by decide +kernel
theorem dX5_halves_25 : decode cX5_halves 25 = .ok (.ldc 187, 2) := by decide +kernel
theorem dX5_halves_27 : decode cX5_halves 27 = .ok (.istore 5, 2) := by decide +kernel
theorem dX5_halves_29 : decode cX5_halves 29 = .ok (.iconst 0, 1) := by decide +kernel
theorem dX5_halves_30 : decode cX5_halves 30 = .ok (.istore 6, 2) := by decide +kernel
theorem dX5_halves_32 : decode cX5_halves 32 = .ok (.iload 6, 2) := by decide +kernel
theorem dX5_halves_34 : decode cX5_halves 34 = .ok (.iload_n 2, 1) := by decide +kernel
theorem dX5_halves_35 : decode cX5_halves 35 = .ok (.if_icmp .gt 106, 3) := by decide +kernel
theorem dX5_halves_38 : decode cX5_halves 38 = .ok (.aload_n 0, 1) := by decide +kernel
theorem dX5_halves_39 : decode cX5_halves 39 = .ok (.invokevirtual 174, 3) := by decide +kernel
theorem dX5_halves_42 : decode cX5_halves 42 = .ok (.aload_n 0, 1) := by decide +kernel
theorem dX5_halves_43 : decode cX5_halves 43 = .ok (.getfield 72, 3) := by decide +kernel
theorem dX5_halves_46 : decode cX5_halves 46 = .ok (.aload_n 0, 1) := by decide +kernel
theorem dX5_halves_47 : decode cX5_halves 47 = .ok (.getfield 27, 3) := by decide +kernel
theorem dX5_halves_50 : decode cX5_halves 50 = .ok (.aload_n 0, 1) := by decide +kernel
theorem dX5_halves_51 : decode cX5_halves 51 = .ok (.getfield 69, 3) := by decide +kernel
theorem dX5_halves_54 : decode cX5_halves 54 = .ok (.iload 6, 2) := by decide +kernel
theorem dX5_halves_56 : decode cX5_halves 56 = .ok (.invokevirtual 136, 3) := by decide +kernel
theorem dX5_halves_59 : decode cX5_halves 59 = .ok (.istore 7, 2) := by decide +kernel
theorem dX5_halves_61 : decode cX5_halves 61 = .ok (.iload 7, 2) := by decide +kernel
theorem dX5_halves_63 : decode cX5_halves 63 = .ok (.aload_n 0, 1) := by decide +kernel
theorem dX5_halves_64 : decode cX5_halves 64 = .ok (.getfield 72, 3) := by decide +kernel
theorem dX5_halves_67 : decode cX5_halves 67 = .ok (.aload_n 0, 1) := by decide +kernel
theorem dX5_halves_68 : decode cX5_halves 68 = .ok (.getfield 27, 3) := by decide +kernel
theorem dX5_halves_71 : decode cX5_halves 71 = .ok (.aload_n 0, 1) := by decide +kernel
theorem dX5_halves_72 : decode cX5_halves 72 = .ok (.getfield 69, 3) := by decide +kernel
theorem dX5_halves_75 : decode cX5_halves 75 = .ok (.iload_n 2, 1) := by decide +kernel
theorem dX5_halves_76 : decode cX5_halves 76 = .ok (.iload 6, 2) := by decide +kernel
theorem dX5_halves_78 : decode cX5_halves 78 = .ok (.iconst (-1), 1) := by decide +kernel
theorem dX5_halves_79 : decode cX5_halves 79 = .ok (.ixor, 1) := by decide +kernel
theorem dX5_halves_80 : decode cX5_halves 80 = .ok (.iand, 1) := by decide +kernel
theorem dX5_halves_81 : decode cX5_halves 81 = .ok (.invokevirtual 136, 3) := by decide +kernel
theorem dX5_halves_84 : decode cX5_halves 84 = .ok (.iadd, 1) := by decide +kernel
theorem dX5_halves_85 : decode cX5_halves 85 = .ok (.istore 7, 2) := by decide +kernel
theorem dX5_halves_87 : decode cX5_halves 87 = .ok (.aload_n 0, 1) := by decide +kernel
theorem dX5_halves_88 : decode cX5_halves 88 = .ok (.getfield 69, 3) := by decide +kernel
theorem dX5_halves_91 : decode cX5_halves 91 = .ok (.aload_n 0, 1) := by decide +kernel
theorem dX5_halves_92 : decode cX5_halves 92 = .ok (.getfield 27, 3) := by decide +kernel
theorem dX5_halves_95 : decode cX5_halves 95 = .ok (.getfield 159, 3) := by decide +kernel
theorem dX5_halves_98 : decode cX5_halves 98 = .ok (.invokevirtual 162, 3) := by decide +kernel
theorem dX5_halves_101 : decode cX5_halves 101 = .ok (.istore 8, 2) := by decide +kernel
theorem dX5_halves_103 : decode cX5_halves 103 = .ok (.iload 8, 2) := by decide +kernel
theorem dX5_halves_105 : decode cX5_halves 105 = .ok (.iload 4, 2) := by decide +kernel
theorem dX5_halves_107 : decode cX5_halves 107 = .ok (.if_icmp .lt 17, 3) := by decide +kernel
theorem dX5_halves_110 : decode cX5_halves 110 = .ok (.iload 8, 2) := by decide +kernel
theorem dX5_halves_112 : decode cX5_halves 112 = .ok (.iload 4, 2) := by decide +kernel
theorem dX5_halves_114 : decode cX5_halves 114 = .ok (.if_icmp .ne 21, 3) := by decide +kernel
theorem dX5_halves_117 : decode cX5_halves 117 = .ok (.iload 7, 2) := by decide +kernel
theorem dX5_halves_119 : decode cX5_halves 119 = .ok (.iload 5, 2) := by decide +kernel
theorem dX5_halves_121 : decode cX5_halves 121 = .ok (.if_icmp .ge 14, 3) := by decide +kernel
theorem dX5_halves_124 : decode cX5_halves 124 = .ok (.iload 6, 2) := by decide +kernel
theorem dX5_halves_126 : decode cX5_halves 126 = .ok (.istore_n 3, 1) := by decide +kernel
theorem dX5_halves_127 : decode cX5_halves 127 = .ok (.iload 8, 2) := by decide +kernel
theorem dX5_halves_129 : decode cX5_halves 129 = .ok (.istore 4, 2) := by decide +kernel
theorem dX5_halves_131 : decode cX5_halves 131 = .ok (.iload 7, 2) := by decide +kernel
theorem dX5_halves_133 : decode cX5_halves 133 = .ok (.istore 5, 2) := by decide +kernel
theorem dX5_halves_135 : decode cX5_halves 135 = .ok (.iinc 6 1, 3) := by decide +kernel
theorem dX5_halves_138 : decode cX5_halves 138 = .ok (.goto (-106), 3) := by decide +kernel
theorem dX5_halves_141 : decode cX5_halves 141 = .ok (.iload_n 1, 1) := by decide +kernel
theorem dX5_halves_142 : decode cX5_halves 142 = .ok (.ifCond .ne 5, 3) := by decide +kernel
theorem dX5_halves_145 : decode cX5_halves 145 = .ok (.iload_n 3, 1) := by decide +kernel
theorem dX5_halves_146 : decode cX5_halves 146 = .ok (.ireturn, 1) := by decide +kernel
theorem dX5_halves_147 : decode cX5_halves 147 = .ok (.iload_n 1, 1) := by decide +kernel
theorem dX5_halves_148 : decode cX5_halves 148 = .ok (.iconst 1, 1) := by decide +kernel
theorem dX5_halves_149 : decode cX5_halves 149 = .ok (.if_icmp .ne 8, 3) := by decide +kernel
theorem dX5_halves_152 : decode cX5_halves 152 = .ok (.iload 4, 2) := by decide +kernel
theorem dX5_halves_154 : decode cX5_halves 154 = .ok (.goto 5, 3) := by decide +kernel
theorem dX5_halves_157 : decode cX5_halves 157 = .ok (.iload 5, 2) := by decide +kernel
theorem dX5_halves_159 : decode cX5_halves 159 = .ok (.ireturn, 1) := by decide +kernel
set_option maxRecDepth 20000 in
theorem ggX5_way_X0_hasDesk : GoodIn wsX5_way wsX0_hasDesk := goodIn_r _ [9, 10, 35, 36, 37, 38, 39, 40, 41, 42, 43, 44, 45] (by decide +kernel) (by decide +kernel)
set_option maxRecDepth 20000 in
theorem gX5_way_X0_hasDesk : GoodIn wsX5_way (wsV RX5 104 RX0 yX0_hasDesk wsX0_hasDesk) := goodIn_app (goodIn_of _ (by decide +kernel)) ggX5_way_X0_hasDesk
set_option maxRecDepth 20000 in
theorem ggX5_way_X5_isFrom : GoodIn wsX5_way wsX5_isFrom := goodIn_r _ [14] (by decide +kernel) (by decide +kernel)
set_option maxRecDepth 20000 in
theorem gX5_way_X5_isFrom : GoodIn wsX5_way (va_wsS RX5 96 yX5_isFrom wsX5_isFrom) := goodIn_app (goodIn_of _ (by decide +kernel)) ggX5_way_X5_isFrom
set_option maxRecDepth 20000 in
theorem ggX5_way_X0_leanOf : GoodIn wsX5_way wsX0_leanOf := goodIn_r _ [18, 19, 20, 6, 7, 8, 9, 10, 35, 36, 37, 38, 39, 40, 41, 42, 43, 44, 45] (by decide +kernel) (by decide +kernel)
set_option maxRecDepth 20000 in
theorem gX5_way_X0_leanOf : GoodIn wsX5_way (wsV RX5 188 RX0 yX0_leanOf wsX0_leanOf) := goodIn_app (goodIn_of _ (by decide +kernel)) ggX5_way_X0_leanOf
theorem dX5_way_0 : decode cX5_way 0 = .ok (.aload_n 0, 1) := by decide +kernel
theorem dX5_way_1 : decode cX5_way 1 = .ok (.getfield 27, 3) := by decide +kernel
theorem dX5_way_4 : decode cX5_way 4 = .ok (.iload_n 1, 1) := by decide +kernel
theorem dX5_way_5 : decode cX5_way 5 = .ok (.invokevirtual 104, 3) := by decide +kernel
theorem dX5_way_8 : decode cX5_way 8 = .ok (.ifCond .eq 12, 3) := by decide +kernel
theorem dX5_way_11 : decode cX5_way 11 = .ok (.iload_n 2, 1) := by decide +kernel
theorem dX5_way_12 : decode cX5_way 12 = .ok (.iconst 0, 1) := by decide +kernel
theorem dX5_way_13 : decode cX5_way 13 = .ok (.iconst 1, 1) := by decide +kernel
theorem dX5_way_14 : decode cX5_way 14 = .ok (.invokestatic 96, 3) := by decide +kernel
theorem dX5_way_17 : decode cX5_way 17 = .ok (.ifCond .ne 5, 3) := by decide +kernel
theorem dX5_way_20 : decode cX5_way 20 = .ok (.iconst (-1), 1) := by decide +kernel
theorem dX5_way_21 : decode cX5_way 21 = .ok (.ireturn, 1) := by decide +kernel
theorem dX5_way_22 : decode cX5_way 22 = .ok (.iload_n 1, 1) := by decide +kernel
theorem dX5_way_23 : decode cX5_way 23 = .ok (.istore_n 3, 1) := by decide +kernel
theorem dX5_way_24 : decode cX5_way 24 = .ok (.iconst 0, 1) := by decide +kernel
theorem dX5_way_25 : decode cX5_way 25 = .ok (.istore 4, 2) := by decide +kernel
theorem dX5_way_27 : decode cX5_way 27 = .ok (.iconst 1, 1) := by decide +kernel
theorem dX5_way_28 : decode cX5_way 28 = .ok (.istore 5, 2) := by decide +kernel
theorem dX5_way_30 : decode cX5_way 30 = .ok (.iload 5, 2) := by decide +kernel
theorem dX5_way_32 : decode cX5_way 32 = .ok (.aload_n 0, 1) := by decide +kernel
theorem dX5_way_33 : decode cX5_way 33 = .ok (.getfield 27, 3) := by decide +kernel
theorem dX5_way_36 : decode cX5_way 36 = .ok (.getfield 159, 3) := by decide +kernel
theorem dX5_way_39 : decode cX5_way 39 = .ok (.if_icmp .gt 86, 3) := by decide +kernel
theorem dX5_way_42 : decode cX5_way 42 = .ok (.aload_n 0, 1) := by decide +kernel
theorem dX5_way_43 : decode cX5_way 43 = .ok (.getfield 27, 3) := by decide +kernel
theorem dX5_way_46 : decode cX5_way 46 = .ok (.iload_n 3, 1) := by decide +kernel
theorem dX5_way_47 : decode cX5_way 47 = .ok (.invokevirtual 104, 3) := by decide +kernel
theorem dX5_way_50 : decode cX5_way 50 = .ok (.ifCond .ne 6, 3) := by decide +kernel
theorem dX5_way_53 : decode cX5_way 53 = .ok (.bipush (-4), 2) := by decide +kernel
theorem dX5_way_55 : decode cX5_way 55 = .ok (.ireturn, 1) := by decide +kernel
theorem dX5_way_56 : decode cX5_way 56 = .ok (.aload_n 0, 1) := by decide +kernel
theorem dX5_way_57 : decode cX5_way 57 = .ok (.getfield 37, 3) := by decide +kernel
theorem dX5_way_60 : decode cX5_way 60 = .ok (.getfield 117, 3) := by decide +kernel
theorem dX5_way_63 : decode cX5_way 63 = .ok (.iload_n 3, 1) := by decide +kernel
theorem dX5_way_64 : decode cX5_way 64 = .ok (.iaload, 1) := by decide +kernel
theorem dX5_way_65 : decode cX5_way 65 = .ok (.istore 6, 2) := by decide +kernel
theorem dX5_way_67 : decode cX5_way 67 = .ok (.iload 6, 2) := by decide +kernel
theorem dX5_way_69 : decode cX5_way 69 = .ok (.bipush 8, 2) := by decide +kernel
theorem dX5_way_71 : decode cX5_way 71 = .ok (.if_icmp .eq 16, 3) := by decide +kernel
theorem dX5_way_74 : decode cX5_way 74 = .ok (.iload 4, 2) := by decide +kernel
theorem dX5_way_76 : decode cX5_way 76 = .ok (.aload_n 0, 1) := by decide +kernel
theorem dX5_way_77 : decode cX5_way 77 = .ok (.getfield 27, 3) := by decide +kernel
theorem dX5_way_80 : decode cX5_way 80 = .ok (.iload_n 3, 1) := by decide +kernel
theorem dX5_way_81 : decode cX5_way 81 = .ok (.invokevirtual 188, 3) := by decide +kernel
theorem dX5_way_84 : decode cX5_way 84 = .ok (.iadd, 1) := by decide +kernel
theorem dX5_way_85 : decode cX5_way 85 = .ok (.istore 4, 2) := by decide +kernel
theorem dX5_way_87 : decode cX5_way 87 = .ok (.iload 6, 2) := by decide +kernel
theorem dX5_way_89 : decode cX5_way 89 = .ok (.bipush 8, 2) := by decide +kernel
theorem dX5_way_91 : decode cX5_way 91 = .ok (.if_icmp .eq 10, 3) := by decide +kernel
theorem dX5_way_94 : decode cX5_way 94 = .ok (.iload 6, 2) := by decide +kernel
theorem dX5_way_96 : decode cX5_way 96 = .ok (.bipush 9, 2) := by decide +kernel
theorem dX5_way_98 : decode cX5_way 98 = .ok (.if_icmp .ne 18, 3) := by decide +kernel
theorem dX5_way_101 : decode cX5_way 101 = .ok (.iload_n 2, 1) := by decide +kernel
theorem dX5_way_102 : decode cX5_way 102 = .ok (.ifCond .ne 8, 3) := by decide +kernel
theorem dX5_way_105 : decode cX5_way 105 = .ok (.iload 5, 2) := by decide +kernel
theorem dX5_way_107 : decode cX5_way 107 = .ok (.goto 8, 3) := by decide +kernel
theorem dX5_way_110 : decode cX5_way 110 = .ok (.iload 4, 2) := by decide +kernel
theorem dX5_way_112 : decode cX5_way 112 = .ok (.bipush 100, 2) := by decide +kernel
theorem dX5_way_114 : decode cX5_way 114 = .ok (.iadd, 1) := by decide +kernel
theorem dX5_way_115 : decode cX5_way 115 = .ok (.ireturn, 1) := by decide +kernel
theorem dX5_way_116 : decode cX5_way 116 = .ok (.iload 6, 2) := by decide +kernel
theorem dX5_way_118 : decode cX5_way 118 = .ok (.istore_n 3, 1) := by decide +kernel
theorem dX5_way_119 : decode cX5_way 119 = .ok (.iinc 5 1, 3) := by decide +kernel
theorem dX5_way_122 : decode cX5_way 122 = .ok (.goto (-92), 3) := by decide +kernel
theorem dX5_way_125 : decode cX5_way 125 = .ok (.bipush (-4), 2) := by decide +kernel
theorem dX5_way_127 : decode cX5_way 127 = .ok (.ireturn, 1) := by decide +kernel
set_option maxRecDepth 20000 in
theorem ggX5_ear_X0_hasDesk : GoodIn wsX5_ear wsX0_hasDesk := goodIn_r _ [16, 17, 140, 141, 142, 143, 144, 145, 146, 147, 148, 149, 150] (by decide +kernel) (by decide +kernel)
set_option maxRecDepth 20000 in
theorem gX5_ear_X0_hasDesk : GoodIn wsX5_ear (wsV RX5 104 RX0 yX0_hasDesk wsX0_hasDesk) := goodIn_app (goodIn_of _ (by decide +kernel)) ggX5_ear_X0_hasDesk
set_option maxRecDepth 20000 in
theorem ggX5_ear_X5_isFrom : GoodIn wsX5_ear wsX5_isFrom := goodIn_r _ [21] (by decide +kernel) (by decide +kernel)
set_option maxRecDepth 20000 in
theorem gX5_ear_X5_isFrom : GoodIn wsX5_ear (va_wsS RX5 96 yX5_isFrom wsX5_isFrom) := goodIn_app (goodIn_of _ (by decide +kernel)) ggX5_ear_X5_isFrom
set_option maxRecDepth 20000 in
theorem ggX5_ear_X0_canHear : GoodIn wsX5_ear wsX0_canHear := goodIn_r _ [25, 26, 13, 14, 15, 16, 17, 140, 141, 142, 143, 144, 145, 146, 147, 148, 149, 150] (by decide +kernel) (by decide +kernel)
set_option maxRecDepth 20000 in
theorem gX5_ear_X0_canHear : GoodIn wsX5_ear (wsV RX5 148 RX0 yX0_canHear wsX0_canHear) := goodIn_app (goodIn_of _ (by decide +kernel)) ggX5_ear_X0_canHear
set_option maxRecDepth 20000 in
theorem ggX5_ear_X5_startTrial : GoodIn wsX5_ear wsX5_startTrial := goodIn_r _ [30, 4, 31, 6, 32, 33, 34, 35, 36, 37, 38, 39, 40, 41, 42, 43, 44, 45, 46, 47, 126, 127, 128, 129, 130, 131, 132, 133, 134, 135, 136, 137, 138, 139, 151, 152, 153, 154, 155, 156, 157, 158, 159] (by decide +kernel) (by decide +kernel)
set_option maxRecDepth 20000 in
theorem gX5_ear_X5_startTrial : GoodIn wsX5_ear (wsV RX5 174 RX5 yX5_startTrial wsX5_startTrial) := goodIn_app (goodIn_of _ (by decide +kernel)) ggX5_ear_X5_startTrial
set_option maxRecDepth 20000 in
theorem ggX5_ear_X4_letGroupsTune : GoodIn wsX5_ear wsX4_letGroupsTune := goodIn_r _ [51, 52, 53, 54, 15, 55, 17, 56, 57, 58, 59, 44, 60, 61, 62, 63, 64, 65, 66, 10, 67, 68, 69, 70, 71, 72, 73, 74, 75, 76, 20, 77, 78, 79, 80, 81, 82, 83, 84, 85, 33, 34, 35, 36, 37, 38, 39, 40, 86, 87, 88, 89, 46, 90, 13, 14, 16, 91, 92, 93, 94, 95, 26, 96, 97, 98, 99, 100, 101, 102, 103, 47, 104, 105, 106, 107, 108, 109, 110, 111, 112, 113, 114, 115, 116, 117, 118, 119, 120, 121, 122, 123, 124, 125, 140, 141, 142, 143, 144, 145, 146, 147, 148, 149, 150, 155, 156, 157, 158, 159, 151, 152, 153, 154] (by decide +kernel) (by decide +kernel)
set_option maxRecDepth 20000 in
theorem gX5_ear_X4_letGroupsTune : GoodIn wsX5_ear (wsV RX5 177 RX4 yX4_letGroupsTune wsX4_letGroupsTune) := goodIn_app (goodIn_of _ (by decide +kernel)) ggX5_ear_X4_letGroupsTune
theorem dX5_ear_0 : decode cX5_ear 0 = .ok (.aload_n 0, 1) := by decide +kernel
theorem dX5_ear_1 : decode cX5_ear 1 = .ok (.getfield 27, 3) := by decide +kernel
theorem dX5_ear_4 : decode cX5_ear 4 = .ok (.iload_n 1, 1) := by decide +kernel
theorem dX5_ear_5 : decode cX5_ear 5 = .ok (.invokevirtual 104, 3) := by decide +kernel
theorem dX5_ear_8 : decode cX5_ear 8 = .ok (.ifCond .eq 12, 3) := by decide +kernel
theorem dX5_ear_11 : decode cX5_ear 11 = .ok (.iload_n 2, 1) := by decide +kernel
theorem dX5_ear_12 : decode cX5_ear 12 = .ok (.iconst 0, 1) := by decide +kernel
theorem dX5_ear_13 : decode cX5_ear 13 = .ok (.iconst 1, 1) := by decide +kernel
theorem dX5_ear_14 : decode cX5_ear 14 = .ok (.invokestatic 96, 3) := by decide +kernel
theorem dX5_ear_17 : decode cX5_ear 17 = .ok (.ifCond .ne 5, 3) := by decide +kernel
theorem dX5_ear_20 : decode cX5_ear 20 = .ok (.iconst (-1), 1) := by decide +kernel
theorem dX5_ear_21 : decode cX5_ear 21 = .ok (.ireturn, 1) := by decide +kernel
theorem dX5_ear_22 : decode cX5_ear 22 = .ok (.aload_n 0, 1) := by decide +kernel
theorem dX5_ear_23 : decode cX5_ear 23 = .ok (.getfield 27, 3) := by decide +kernel
theorem dX5_ear_26 : decode cX5_ear 26 = .ok (.getfield 108, 3) := by decide +kernel
theorem dX5_ear_29 : decode cX5_ear 29 = .ok (.iload_n 1, 1) := by decide +kernel
theorem dX5_ear_30 : decode cX5_ear 30 = .ok (.iaload, 1) := by decide +kernel
theorem dX5_ear_31 : decode cX5_ear 31 = .ok (.iconst 2, 1) := by decide +kernel
theorem dX5_ear_32 : decode cX5_ear 32 = .ok (.if_icmp .ne 6, 3) := by decide +kernel
theorem dX5_ear_35 : decode cX5_ear 35 = .ok (.bipush (-2), 2) := by decide +kernel
theorem dX5_ear_37 : decode cX5_ear 37 = .ok (.ireturn, 1) := by decide +kernel
theorem dX5_ear_38 : decode cX5_ear 38 = .ok (.bipush 9, 2) := by decide +kernel
theorem dX5_ear_40 : decode cX5_ear 40 = .ok (.istore_n 3, 1) := by decide +kernel
theorem dX5_ear_41 : decode cX5_ear 41 = .ok (.ldc 187, 2) := by decide +kernel
theorem dX5_ear_43 : decode cX5_ear 43 = .ok (.istore 4, 2) := by decide +kernel
theorem dX5_ear_45 : decode cX5_ear 45 = .ok (.iconst 0, 1) := by decide +kernel
theorem dX5_ear_46 : decode cX5_ear 46 = .ok (.istore 5, 2) := by decide +kernel
theorem dX5_ear_48 : decode cX5_ear 48 = .ok (.iload 5, 2) := by decide +kernel
theorem dX5_ear_50 : decode cX5_ear 50 = .ok (.bipush 9, 2) := by decide +kernel
theorem dX5_ear_52 : decode cX5_ear 52 = .ok (.if_icmp .gt 91, 3) := by decide +kernel
theorem dX5_ear_55 : decode cX5_ear 55 = .ok (.iload 5, 2) := by decide +kernel
theorem dX5_ear_57 : decode cX5_ear 57 = .ok (.bipush 8, 2) := by decide +kernel
theorem dX5_ear_59 : decode cX5_ear 59 = .ok (.if_icmp .eq 78, 3) := by decide +kernel
theorem dX5_ear_62 : decode cX5_ear 62 = .ok (.aload_n 0, 1) := by decide +kernel
theorem dX5_ear_63 : decode cX5_ear 63 = .ok (.getfield 27, 3) := by decide +kernel
theorem dX5_ear_66 : decode cX5_ear 66 = .ok (.iload_n 1, 1) := by decide +kernel
theorem dX5_ear_67 : decode cX5_ear 67 = .ok (.iload 5, 2) := by decide +kernel
theorem dX5_ear_69 : decode cX5_ear 69 = .ok (.invokevirtual 148, 3) := by decide +kernel
theorem dX5_ear_72 : decode cX5_ear 72 = .ok (.ifCond .ne 6, 3) := by decide +kernel
theorem dX5_ear_75 : decode cX5_ear 75 = .ok (.goto 62, 3) := by decide +kernel
theorem dX5_ear_78 : decode cX5_ear 78 = .ok (.aload_n 0, 1) := by decide +kernel
theorem dX5_ear_79 : decode cX5_ear 79 = .ok (.invokevirtual 174, 3) := by decide +kernel
theorem dX5_ear_82 : decode cX5_ear 82 = .ok (.aload_n 0, 1) := by decide +kernel
theorem dX5_ear_83 : decode cX5_ear 83 = .ok (.getfield 69, 3) := by decide +kernel
theorem dX5_ear_86 : decode cX5_ear 86 = .ok (.getfield 117, 3) := by decide +kernel
theorem dX5_ear_89 : decode cX5_ear 89 = .ok (.iload_n 1, 1) := by decide +kernel
theorem dX5_ear_90 : decode cX5_ear 90 = .ok (.iload 5, 2) := by decide +kernel
theorem dX5_ear_92 : decode cX5_ear 92 = .ok (.iastore, 1) := by decide +kernel
theorem dX5_ear_93 : decode cX5_ear 93 = .ok (.aload_n 0, 1) := by decide +kernel
theorem dX5_ear_94 : decode cX5_ear 94 = .ok (.getfield 72, 3) := by decide +kernel
theorem dX5_ear_97 : decode cX5_ear 97 = .ok (.aload_n 0, 1) := by decide +kernel
theorem dX5_ear_98 : decode cX5_ear 98 = .ok (.getfield 27, 3) := by decide +kernel
theorem dX5_ear_101 : decode cX5_ear 101 = .ok (.aload_n 0, 1) := by decide +kernel
theorem dX5_ear_102 : decode cX5_ear 102 = .ok (.getfield 69, 3) := by decide +kernel
theorem dX5_ear_105 : decode cX5_ear 105 = .ok (.invokevirtual 177, 3) := by decide +kernel
theorem dX5_ear_108 : decode cX5_ear 108 = .ok (.pop, 1) := by decide +kernel
theorem dX5_ear_109 : decode cX5_ear 109 = .ok (.aload_n 0, 1) := by decide +kernel
theorem dX5_ear_110 : decode cX5_ear 110 = .ok (.getfield 69, 3) := by decide +kernel
theorem dX5_ear_113 : decode cX5_ear 113 = .ok (.getfield 126, 3) := by decide +kernel
theorem dX5_ear_116 : decode cX5_ear 116 = .ok (.iload_n 1, 1) := by decide +kernel
theorem dX5_ear_117 : decode cX5_ear 117 = .ok (.iaload, 1) := by decide +kernel
theorem dX5_ear_118 : decode cX5_ear 118 = .ok (.invokestatic 191, 3) := by decide +kernel
theorem dX5_ear_121 : decode cX5_ear 121 = .ok (.istore 6, 2) := by decide +kernel
theorem dX5_ear_123 : decode cX5_ear 123 = .ok (.iload 6, 2) := by decide +kernel
theorem dX5_ear_125 : decode cX5_ear 125 = .ok (.iload 4, 2) := by decide +kernel
theorem dX5_ear_127 : decode cX5_ear 127 = .ok (.if_icmp .ge 10, 3) := by decide +kernel
theorem dX5_ear_130 : decode cX5_ear 130 = .ok (.iload 5, 2) := by decide +kernel
theorem dX5_ear_132 : decode cX5_ear 132 = .ok (.istore_n 3, 1) := by decide +kernel
theorem dX5_ear_133 : decode cX5_ear 133 = .ok (.iload 6, 2) := by decide +kernel
theorem dX5_ear_135 : decode cX5_ear 135 = .ok (.istore 4, 2) := by decide +kernel
theorem dX5_ear_137 : decode cX5_ear 137 = .ok (.iinc 5 1, 3) := by decide +kernel
theorem dX5_ear_140 : decode cX5_ear 140 = .ok (.goto (-92), 3) := by decide +kernel
theorem dX5_ear_143 : decode cX5_ear 143 = .ok (.iload_n 2, 1) := by decide +kernel
theorem dX5_ear_144 : decode cX5_ear 144 = .ok (.ifCond .ne 7, 3) := by decide +kernel
theorem dX5_ear_147 : decode cX5_ear 147 = .ok (.iload_n 3, 1) := by decide +kernel
theorem dX5_ear_148 : decode cX5_ear 148 = .ok (.goto 5, 3) := by decide +kernel
theorem dX5_ear_151 : decode cX5_ear 151 = .ok (.iload 4, 2) := by decide +kernel
theorem dX5_ear_153 : decode cX5_ear 153 = .ok (.ireturn, 1) := by decide +kernel
set_option maxRecDepth 20000 in
theorem ggX5_again_X5_startTrial : GoodIn wsX5_again wsX5_startTrial := goodIn_r _ [9, 1, 10, 11, 12, 13, 14, 15, 16, 17, 18, 19, 20, 21, 22, 23, 24, 25, 26, 27, 60, 61, 62, 63, 64, 65, 66, 67, 68, 69, 70, 71, 72, 73, 85, 86, 87, 88, 89, 90, 91, 92, 93] (by decide +kernel) (by decide +kernel)
set_option maxRecDepth 20000 in
theorem gX5_again_X5_startTrial : GoodIn wsX5_again (wsV RX5 174 RX5 yX5_startTrial wsX5_startTrial) := goodIn_app (goodIn_of _ (by decide +kernel)) ggX5_again_X5_startTrial
set_option maxRecDepth 20000 in
theorem ggX5_again_X2_apart : GoodIn wsX5_again wsX2_apart := goodIn_r _ [31, 17, 32, 33, 34, 35, 36, 37, 38, 85, 86, 87, 88] (by decide +kernel) (by decide +kernel)
set_option maxRecDepth 20000 in
theorem gX5_again_X2_apart : GoodIn wsX5_again (wsV RX5 162 RX2 yX2_apart wsX2_apart) := goodIn_app (goodIn_of _ (by decide +kernel)) ggX5_again_X2_apart
set_option maxRecDepth 20000 in
theorem ggX5_again_X2_letPass : GoodIn wsX5_again wsX2_letPass := goodIn_r _ [42, 20, 43, 44, 17, 45, 46, 47, 48, 49, 50, 51, 52, 53, 54, 55, 56, 8, 57, 58, 37, 34, 38, 59, 33, 35, 85, 86, 87, 88, 74, 75, 76, 77, 78, 79, 80, 81, 82, 83, 84] (by decide +kernel) (by decide +kernel)
set_option maxRecDepth 20000 in
theorem gX5_again_X2_letPass : GoodIn wsX5_again (wsV RX5 144 RX2 yX2_letPass wsX2_letPass) := goodIn_app (goodIn_of _ (by decide +kernel)) ggX5_again_X2_letPass
theorem dX5_again_0 : decode cX5_again 0 = .ok (.aload_n 0, 1) := by decide +kernel
theorem dX5_again_1 : decode cX5_again 1 = .ok (.invokevirtual 174, 3) := by decide +kernel
theorem dX5_again_4 : decode cX5_again 4 = .ok (.iconst 0, 1) := by decide +kernel
theorem dX5_again_5 : decode cX5_again 5 = .ok (.istore_n 1, 1) := by decide +kernel
theorem dX5_again_6 : decode cX5_again 6 = .ok (.iload_n 1, 1) := by decide +kernel
theorem dX5_again_7 : decode cX5_again 7 = .ok (.bipush 99, 2) := by decide +kernel
theorem dX5_again_9 : decode cX5_again 9 = .ok (.if_icmp .gt 48, 3) := by decide +kernel
theorem dX5_again_12 : decode cX5_again 12 = .ok (.aload_n 0, 1) := by decide +kernel
theorem dX5_again_13 : decode cX5_again 13 = .ok (.getfield 69, 3) := by decide +kernel
theorem dX5_again_16 : decode cX5_again 16 = .ok (.aload_n 0, 1) := by decide +kernel
theorem dX5_again_17 : decode cX5_again 17 = .ok (.getfield 27, 3) := by decide +kernel
theorem dX5_again_20 : decode cX5_again 20 = .ok (.getfield 159, 3) := by decide +kernel
theorem dX5_again_23 : decode cX5_again 23 = .ok (.invokevirtual 162, 3) := by decide +kernel
theorem dX5_again_26 : decode cX5_again 26 = .ok (.aload_n 0, 1) := by decide +kernel
theorem dX5_again_27 : decode cX5_again 27 = .ok (.getfield 27, 3) := by decide +kernel
theorem dX5_again_30 : decode cX5_again 30 = .ok (.getfield 194, 3) := by decide +kernel
theorem dX5_again_33 : decode cX5_again 33 = .ok (.if_icmp .le 5, 3) := by decide +kernel
theorem dX5_again_36 : decode cX5_again 36 = .ok (.iload_n 1, 1) := by decide +kernel
theorem dX5_again_37 : decode cX5_again 37 = .ok (.ireturn, 1) := by decide +kernel
theorem dX5_again_38 : decode cX5_again 38 = .ok (.aload_n 0, 1) := by decide +kernel
theorem dX5_again_39 : decode cX5_again 39 = .ok (.getfield 69, 3) := by decide +kernel
theorem dX5_again_42 : decode cX5_again 42 = .ok (.aload_n 0, 1) := by decide +kernel
theorem dX5_again_43 : decode cX5_again 43 = .ok (.getfield 27, 3) := by decide +kernel
theorem dX5_again_46 : decode cX5_again 46 = .ok (.bipush 60, 2) := by decide +kernel
theorem dX5_again_48 : decode cX5_again 48 = .ok (.invokevirtual 144, 3) := by decide +kernel
theorem dX5_again_51 : decode cX5_again 51 = .ok (.iinc 1 1, 3) := by decide +kernel
theorem dX5_again_54 : decode cX5_again 54 = .ok (.goto (-48), 3) := by decide +kernel
theorem dX5_again_57 : decode cX5_again 57 = .ok (.bipush (-4), 2) := by decide +kernel
theorem dX5_again_59 : decode cX5_again 59 = .ok (.ireturn, 1) := by decide +kernel
set_option maxRecDepth 20000 in
theorem ggX5_needles_X5_isFrom : GoodIn wsX5_needles wsX5_isFrom := goodIn_r _ [9] (by decide +kernel) (by decide +kernel)
set_option maxRecDepth 20000 in
theorem gX5_needles_X5_isFrom : GoodIn wsX5_needles (va_wsS RX5 96 yX5_isFrom wsX5_isFrom) := goodIn_app (goodIn_of _ (by decide +kernel)) ggX5_needles_X5_isFrom
set_option maxRecDepth 20000 in
theorem ggX5_needles_X0_allDesks : GoodIn wsX5_needles wsX0_allDesks := goodIn_r _ [14, 15, 146, 147, 148, 149, 150, 151, 152, 153, 154, 155, 156] (by decide +kernel) (by decide +kernel)
set_option maxRecDepth 20000 in
theorem gX5_needles_X0_allDesks : GoodIn wsX5_needles (wsV RX5 184 RX0 yX0_allDesks wsX0_allDesks) := goodIn_app (goodIn_of _ (by decide +kernel)) ggX5_needles_X0_allDesks
set_option maxRecDepth 20000 in
theorem ggX5_needles_X0_tunableOf : GoodIn wsX5_needles wsX0_tunableOf := goodIn_r _ [19, 15, 20, 21, 8, 22, 146, 147, 148, 149, 150, 151, 152, 153, 154, 155, 156] (by decide +kernel) (by decide +kernel)
set_option maxRecDepth 20000 in
theorem gX5_needles_X0_tunableOf : GoodIn wsX5_needles (wsV RX5 197 RX0 yX0_tunableOf wsX0_tunableOf) := goodIn_app (goodIn_of _ (by decide +kernel)) ggX5_needles_X0_tunableOf
set_option maxRecDepth 20000 in
theorem ggX5_needles_J6_bitCount_0f7a4 : GoodIn wsX5_needles wsJ6_bitCount_0f7a4 := goodIn_r _ [26, 27, 28, 29] (by decide +kernel) (by decide +kernel)
set_option maxRecDepth 20000 in
theorem gX5_needles_J6_bitCount_0f7a4 : GoodIn wsX5_needles (va_wsS RX5 200 yJ6_bitCount_0f7a4 wsJ6_bitCount_0f7a4) := goodIn_app (goodIn_of _ (by decide +kernel)) ggX5_needles_J6_bitCount_0f7a4
set_option maxRecDepth 20000 in
theorem ggX5_needles_X5_startTrial : GoodIn wsX5_needles wsX5_startTrial := goodIn_r _ [33, 3, 34, 5, 35, 36, 37, 38, 39, 40, 41, 42, 43, 44, 45, 46, 47, 48, 49, 50, 132, 133, 134, 135, 136, 137, 138, 139, 140, 141, 142, 143, 144, 145, 157, 158, 159, 160, 161, 162, 163, 164, 165] (by decide +kernel) (by decide +kernel)
set_option maxRecDepth 20000 in
theorem gX5_needles_X5_startTrial : GoodIn wsX5_needles (wsV RX5 174 RX5 yX5_startTrial wsX5_startTrial) := goodIn_app (goodIn_of _ (by decide +kernel)) ggX5_needles_X5_startTrial
set_option maxRecDepth 20000 in
theorem ggX5_needles_X2_giveNeedles : GoodIn wsX5_needles wsX2_giveNeedles := goodIn_r _ [54, 41, 21, 8, 22, 157, 158, 159, 160] (by decide +kernel) (by decide +kernel)
set_option maxRecDepth 20000 in
theorem gX5_needles_X2_giveNeedles : GoodIn wsX5_needles (wsV RX5 205 RX2 yX2_giveNeedles wsX2_giveNeedles) := goodIn_app (goodIn_of _ (by decide +kernel)) ggX5_needles_X2_giveNeedles
set_option maxRecDepth 20000 in
theorem ggX5_needles_X4_letGroupsTune : GoodIn wsX5_needles wsX4_letGroupsTune := goodIn_r _ [58, 59, 60, 61, 13, 62, 15, 63, 64, 65, 66, 47, 67, 68, 69, 70, 71, 72, 73, 74, 75, 76, 77, 78, 79, 17, 18, 19, 20, 21, 8, 22, 80, 24, 25, 26, 27, 28, 29, 81, 36, 37, 38, 39, 40, 41, 42, 43, 82, 83, 84, 85, 49, 86, 87, 88, 89, 90, 91, 92, 93, 94, 95, 96, 97, 98, 99, 100, 101, 102, 103, 50, 104, 105, 106, 107, 108, 109, 110, 111, 112, 113, 114, 115, 116, 117, 118, 119, 120, 121, 122, 123, 124, 125, 146, 147, 148, 149, 150, 151, 152, 153, 154, 155, 156, 161, 162, 163, 164, 165, 157, 158, 159, 160] (by decide +kernel) (by decide +kernel)
set_option maxRecDepth 20000 in
theorem gX5_needles_X4_letGroupsTune : GoodIn wsX5_needles (wsV RX5 177 RX4 yX4_letGroupsTune wsX4_letGroupsTune) := goodIn_app (goodIn_of _ (by decide +kernel)) ggX5_needles_X4_letGroupsTune
set_option maxRecDepth 20000 in
theorem ggX5_needles_X2_apart : GoodIn wsX5_needles wsX2_apart := goodIn_r _ [129, 40, 130, 73, 74, 75, 131, 113, 114, 157, 158, 159, 160] (by decide +kernel) (by decide +kernel)
set_option maxRecDepth 20000 in
theorem gX5_needles_X2_apart : GoodIn wsX5_needles (wsV RX5 162 RX2 yX2_apart wsX2_apart) := goodIn_app (goodIn_of _ (by decide +kernel)) ggX5_needles_X2_apart
theorem dX5_needles_0 : decode cX5_needles 0 = .ok (.iload_n 1, 1) := by decide +kernel
theorem dX5_needles_1 : decode cX5_needles 1 = .ok (.iconst 0, 1) := by decide +kernel
theorem dX5_needles_2 : decode cX5_needles 2 = .ok (.iconst 3, 1) := by decide +kernel
theorem dX5_needles_3 : decode cX5_needles 3 = .ok (.invokestatic 96, 3) := by decide +kernel
theorem dX5_needles_6 : decode cX5_needles 6 = .ok (.ifCond .eq 12, 3) := by decide +kernel
theorem dX5_needles_9 : decode cX5_needles 9 = .ok (.iload_n 2, 1) := by decide +kernel
theorem dX5_needles_10 : decode cX5_needles 10 = .ok (.iconst 0, 1) := by decide +kernel
theorem dX5_needles_11 : decode cX5_needles 11 = .ok (.iconst 1, 1) := by decide +kernel
theorem dX5_needles_12 : decode cX5_needles 12 = .ok (.invokestatic 96, 3) := by decide +kernel
theorem dX5_needles_15 : decode cX5_needles 15 = .ok (.ifCond .ne 5, 3) := by decide +kernel
theorem dX5_needles_18 : decode cX5_needles 18 = .ok (.iconst (-1), 1) := by decide +kernel
theorem dX5_needles_19 : decode cX5_needles 19 = .ok (.ireturn, 1) := by decide +kernel
theorem dX5_needles_20 : decode cX5_needles 20 = .ok (.aload_n 0, 1) := by decide +kernel
theorem dX5_needles_21 : decode cX5_needles 21 = .ok (.getfield 27, 3) := by decide +kernel
theorem dX5_needles_24 : decode cX5_needles 24 = .ok (.aload_n 0, 1) := by decide +kernel
theorem dX5_needles_25 : decode cX5_needles 25 = .ok (.getfield 27, 3) := by decide +kernel
theorem dX5_needles_28 : decode cX5_needles 28 = .ok (.invokevirtual 184, 3) := by decide +kernel
theorem dX5_needles_31 : decode cX5_needles 31 = .ok (.invokevirtual 197, 3) := by decide +kernel
theorem dX5_needles_34 : decode cX5_needles 34 = .ok (.istore_n 3, 1) := by decide +kernel
theorem dX5_needles_35 : decode cX5_needles 35 = .ok (.iload_n 3, 1) := by decide +kernel
theorem dX5_needles_36 : decode cX5_needles 36 = .ok (.invokestatic 200, 3) := by decide +kernel
theorem dX5_needles_39 : decode cX5_needles 39 = .ok (.iload_n 1, 1) := by decide +kernel
theorem dX5_needles_40 : decode cX5_needles 40 = .ok (.if_icmp .ge 6, 3) := by decide +kernel
theorem dX5_needles_43 : decode cX5_needles 43 = .ok (.bipush (-4), 2) := by decide +kernel
theorem dX5_needles_45 : decode cX5_needles 45 = .ok (.ireturn, 1) := by decide +kernel
theorem dX5_needles_46 : decode cX5_needles 46 = .ok (.iconst 0, 1) := by decide +kernel
theorem dX5_needles_47 : decode cX5_needles 47 = .ok (.istore 4, 2) := by decide +kernel
theorem dX5_needles_49 : decode cX5_needles 49 = .ok (.ldc 187, 2) := by decide +kernel
theorem dX5_needles_51 : decode cX5_needles 51 = .ok (.istore 5, 2) := by decide +kernel
theorem dX5_needles_53 : decode cX5_needles 53 = .ok (.iconst 0, 1) := by decide +kernel
theorem dX5_needles_54 : decode cX5_needles 54 = .ok (.istore 6, 2) := by decide +kernel
theorem dX5_needles_56 : decode cX5_needles 56 = .ok (.iload 6, 2) := by decide +kernel
theorem dX5_needles_58 : decode cX5_needles 58 = .ok (.iload_n 3, 1) := by decide +kernel
theorem dX5_needles_59 : decode cX5_needles 59 = .ok (.if_icmp .gt 97, 3) := by decide +kernel
theorem dX5_needles_62 : decode cX5_needles 62 = .ok (.iload 6, 2) := by decide +kernel
theorem dX5_needles_64 : decode cX5_needles 64 = .ok (.invokestatic 200, 3) := by decide +kernel
theorem dX5_needles_67 : decode cX5_needles 67 = .ok (.iload_n 1, 1) := by decide +kernel
theorem dX5_needles_68 : decode cX5_needles 68 = .ok (.if_icmp .ne 82, 3) := by decide +kernel
theorem dX5_needles_71 : decode cX5_needles 71 = .ok (.iload 6, 2) := by decide +kernel
theorem dX5_needles_73 : decode cX5_needles 73 = .ok (.iload_n 3, 1) := by decide +kernel
theorem dX5_needles_74 : decode cX5_needles 74 = .ok (.iconst (-1), 1) := by decide +kernel
theorem dX5_needles_75 : decode cX5_needles 75 = .ok (.ixor, 1) := by decide +kernel
theorem dX5_needles_76 : decode cX5_needles 76 = .ok (.iand, 1) := by decide +kernel
theorem dX5_needles_77 : decode cX5_needles 77 = .ok (.ifCond .eq 6, 3) := by decide +kernel
theorem dX5_needles_80 : decode cX5_needles 80 = .ok (.goto 70, 3) := by decide +kernel
theorem dX5_needles_83 : decode cX5_needles 83 = .ok (.aload_n 0, 1) := by decide +kernel
theorem dX5_needles_84 : decode cX5_needles 84 = .ok (.invokevirtual 174, 3) := by decide +kernel
theorem dX5_needles_87 : decode cX5_needles 87 = .ok (.aload_n 0, 1) := by decide +kernel
theorem dX5_needles_88 : decode cX5_needles 88 = .ok (.getfield 69, 3) := by decide +kernel
theorem dX5_needles_91 : decode cX5_needles 91 = .ok (.aload_n 0, 1) := by decide +kernel
theorem dX5_needles_92 : decode cX5_needles 92 = .ok (.getfield 27, 3) := by decide +kernel
theorem dX5_needles_95 : decode cX5_needles 95 = .ok (.getfield 159, 3) := by decide +kernel
theorem dX5_needles_98 : decode cX5_needles 98 = .ok (.iload 6, 2) := by decide +kernel
theorem dX5_needles_100 : decode cX5_needles 100 = .ok (.invokevirtual 205, 3) := by decide +kernel
theorem dX5_needles_103 : decode cX5_needles 103 = .ok (.aload_n 0, 1) := by decide +kernel
theorem dX5_needles_104 : decode cX5_needles 104 = .ok (.getfield 72, 3) := by decide +kernel
theorem dX5_needles_107 : decode cX5_needles 107 = .ok (.aload_n 0, 1) := by decide +kernel
theorem dX5_needles_108 : decode cX5_needles 108 = .ok (.getfield 27, 3) := by decide +kernel
theorem dX5_needles_111 : decode cX5_needles 111 = .ok (.aload_n 0, 1) := by decide +kernel
theorem dX5_needles_112 : decode cX5_needles 112 = .ok (.getfield 69, 3) := by decide +kernel
theorem dX5_needles_115 : decode cX5_needles 115 = .ok (.invokevirtual 177, 3) := by decide +kernel
theorem dX5_needles_118 : decode cX5_needles 118 = .ok (.pop, 1) := by decide +kernel
theorem dX5_needles_119 : decode cX5_needles 119 = .ok (.aload_n 0, 1) := by decide +kernel
theorem dX5_needles_120 : decode cX5_needles 120 = .ok (.getfield 69, 3) := by decide +kernel
theorem dX5_needles_123 : decode cX5_needles 123 = .ok (.aload_n 0, 1) := by decide +kernel
theorem dX5_needles_124 : decode cX5_needles 124 = .ok (.getfield 27, 3) := by decide +kernel
theorem dX5_needles_127 : decode cX5_needles 127 = .ok (.getfield 159, 3) := by decide +kernel
theorem dX5_needles_130 : decode cX5_needles 130 = .ok (.invokevirtual 162, 3) := by decide +kernel
theorem dX5_needles_133 : decode cX5_needles 133 = .ok (.istore 7, 2) := by decide +kernel
theorem dX5_needles_135 : decode cX5_needles 135 = .ok (.iload 7, 2) := by decide +kernel
theorem dX5_needles_137 : decode cX5_needles 137 = .ok (.iload 5, 2) := by decide +kernel
theorem dX5_needles_139 : decode cX5_needles 139 = .ok (.if_icmp .ge 11, 3) := by decide +kernel
theorem dX5_needles_142 : decode cX5_needles 142 = .ok (.iload 6, 2) := by decide +kernel
theorem dX5_needles_144 : decode cX5_needles 144 = .ok (.istore 4, 2) := by decide +kernel
theorem dX5_needles_146 : decode cX5_needles 146 = .ok (.iload 7, 2) := by decide +kernel
theorem dX5_needles_148 : decode cX5_needles 148 = .ok (.istore 5, 2) := by decide +kernel
theorem dX5_needles_150 : decode cX5_needles 150 = .ok (.iinc 6 1, 3) := by decide +kernel
theorem dX5_needles_153 : decode cX5_needles 153 = .ok (.goto (-97), 3) := by decide +kernel
theorem dX5_needles_156 : decode cX5_needles 156 = .ok (.iload_n 2, 1) := by decide +kernel
theorem dX5_needles_157 : decode cX5_needles 157 = .ok (.ifCond .ne 8, 3) := by decide +kernel
theorem dX5_needles_160 : decode cX5_needles 160 = .ok (.iload 4, 2) := by decide +kernel
theorem dX5_needles_162 : decode cX5_needles 162 = .ok (.goto 5, 3) := by decide +kernel
theorem dX5_needles_165 : decode cX5_needles 165 = .ok (.iload 5, 2) := by decide +kernel
theorem dX5_needles_167 : decode cX5_needles 167 = .ok (.ireturn, 1) := by decide +kernel
set_option maxRecDepth 20000 in
theorem ggX5_blame_X5_isFrom : GoodIn wsX5_blame wsX5_isFrom := goodIn_r _ [9] (by decide +kernel) (by decide +kernel)
set_option maxRecDepth 20000 in
theorem gX5_blame_X5_isFrom : GoodIn wsX5_blame (va_wsS RX5 96 yX5_isFrom wsX5_isFrom) := goodIn_app (goodIn_of _ (by decide +kernel)) ggX5_blame_X5_isFrom
set_option maxRecDepth 20000 in
theorem ggX5_blame_X5_startTrial : GoodIn wsX5_blame wsX5_startTrial := goodIn_r _ [13, 5, 14, 4, 15, 16, 17, 18, 19, 20, 21, 22, 23, 24, 25, 26, 27, 28, 29, 30, 126, 127, 128, 129, 130, 131, 132, 133, 134, 135, 136, 137, 138, 139, 151, 152, 153, 154, 155, 156, 157, 158, 159] (by decide +kernel) (by decide +kernel)
set_option maxRecDepth 20000 in
theorem gX5_blame_X5_startTrial : GoodIn wsX5_blame (wsV RX5 174 RX5 yX5_startTrial wsX5_startTrial) := goodIn_app (goodIn_of _ (by decide +kernel)) ggX5_blame_X5_startTrial
set_option maxRecDepth 20000 in
theorem ggX5_blame_X4_straighten : GoodIn wsX5_blame wsX4_straighten := goodIn_r _ [34, 29, 155, 156, 157, 158, 159] (by decide +kernel) (by decide +kernel)
set_option maxRecDepth 20000 in
theorem gX5_blame_X4_straighten : GoodIn wsX5_blame (wsV RX5 209 RX4 yX4_straighten wsX4_straighten) := goodIn_app (goodIn_of _ (by decide +kernel)) ggX5_blame_X4_straighten
set_option maxRecDepth 20000 in
theorem ggX5_blame_X4_letGroupsTune : GoodIn wsX5_blame wsX4_letGroupsTune := goodIn_r _ [38, 39, 40, 41, 42, 43, 44, 45, 46, 47, 48, 27, 49, 50, 51, 52, 53, 54, 55, 56, 57, 58, 59, 60, 61, 62, 63, 64, 65, 66, 8, 67, 68, 69, 70, 71, 72, 73, 74, 75, 16, 17, 18, 19, 20, 21, 22, 23, 76, 77, 78, 79, 29, 80, 81, 82, 83, 84, 85, 86, 87, 88, 89, 90, 91, 92, 93, 94, 95, 96, 97, 30, 98, 99, 100, 101, 102, 103, 104, 105, 106, 107, 108, 109, 110, 111, 112, 113, 114, 115, 116, 117, 118, 119, 140, 141, 142, 143, 144, 145, 146, 147, 148, 149, 150, 155, 156, 157, 158, 159, 151, 152, 153, 154] (by decide +kernel) (by decide +kernel)
set_option maxRecDepth 20000 in
theorem gX5_blame_X4_letGroupsTune : GoodIn wsX5_blame (wsV RX5 177 RX4 yX4_letGroupsTune wsX4_letGroupsTune) := goodIn_app (goodIn_of _ (by decide +kernel)) ggX5_blame_X4_letGroupsTune
set_option maxRecDepth 20000 in
theorem ggX5_blame_X2_apart : GoodIn wsX5_blame wsX2_apart := goodIn_r _ [123, 20, 124, 55, 56, 57, 125, 107, 108, 151, 152, 153, 154] (by decide +kernel) (by decide +kernel)
set_option maxRecDepth 20000 in
theorem gX5_blame_X2_apart : GoodIn wsX5_blame (wsV RX5 162 RX2 yX2_apart wsX2_apart) := goodIn_app (goodIn_of _ (by decide +kernel)) ggX5_blame_X2_apart
theorem dX5_blame_0 : decode cX5_blame 0 = .ok (.iload_n 1, 1) := by decide +kernel
theorem dX5_blame_1 : decode cX5_blame 1 = .ok (.iconst 0, 1) := by decide +kernel
theorem dX5_blame_2 : decode cX5_blame 2 = .ok (.iconst 1, 1) := by decide +kernel
theorem dX5_blame_3 : decode cX5_blame 3 = .ok (.invokestatic 96, 3) := by decide +kernel
theorem dX5_blame_6 : decode cX5_blame 6 = .ok (.ifCond .ne 5, 3) := by decide +kernel
theorem dX5_blame_9 : decode cX5_blame 9 = .ok (.iconst (-1), 1) := by decide +kernel
theorem dX5_blame_10 : decode cX5_blame 10 = .ok (.ireturn, 1) := by decide +kernel
theorem dX5_blame_11 : decode cX5_blame 11 = .ok (.iconst 0, 1) := by decide +kernel
theorem dX5_blame_12 : decode cX5_blame 12 = .ok (.istore_n 2, 1) := by decide +kernel
theorem dX5_blame_13 : decode cX5_blame 13 = .ok (.ldc 187, 2) := by decide +kernel
theorem dX5_blame_15 : decode cX5_blame 15 = .ok (.istore_n 3, 1) := by decide +kernel
theorem dX5_blame_16 : decode cX5_blame 16 = .ok (.iconst 0, 1) := by decide +kernel
theorem dX5_blame_17 : decode cX5_blame 17 = .ok (.istore 4, 2) := by decide +kernel
theorem dX5_blame_19 : decode cX5_blame 19 = .ok (.iload 4, 2) := by decide +kernel
theorem dX5_blame_21 : decode cX5_blame 21 = .ok (.aload_n 0, 1) := by decide +kernel
theorem dX5_blame_22 : decode cX5_blame 22 = .ok (.getfield 27, 3) := by decide +kernel
theorem dX5_blame_25 : decode cX5_blame 25 = .ok (.getfield 159, 3) := by decide +kernel
theorem dX5_blame_28 : decode cX5_blame 28 = .ok (.if_icmp .ge 66, 3) := by decide +kernel
theorem dX5_blame_31 : decode cX5_blame 31 = .ok (.aload_n 0, 1) := by decide +kernel
theorem dX5_blame_32 : decode cX5_blame 32 = .ok (.invokevirtual 174, 3) := by decide +kernel
theorem dX5_blame_35 : decode cX5_blame 35 = .ok (.aload_n 0, 1) := by decide +kernel
theorem dX5_blame_36 : decode cX5_blame 36 = .ok (.getfield 72, 3) := by decide +kernel
theorem dX5_blame_39 : decode cX5_blame 39 = .ok (.iload 4, 2) := by decide +kernel
theorem dX5_blame_41 : decode cX5_blame 41 = .ok (.invokevirtual 209, 3) := by decide +kernel
theorem dX5_blame_44 : decode cX5_blame 44 = .ok (.aload_n 0, 1) := by decide +kernel
theorem dX5_blame_45 : decode cX5_blame 45 = .ok (.getfield 72, 3) := by decide +kernel
theorem dX5_blame_48 : decode cX5_blame 48 = .ok (.aload_n 0, 1) := by decide +kernel
theorem dX5_blame_49 : decode cX5_blame 49 = .ok (.getfield 27, 3) := by decide +kernel
theorem dX5_blame_52 : decode cX5_blame 52 = .ok (.aload_n 0, 1) := by decide +kernel
theorem dX5_blame_53 : decode cX5_blame 53 = .ok (.getfield 69, 3) := by decide +kernel
theorem dX5_blame_56 : decode cX5_blame 56 = .ok (.invokevirtual 177, 3) := by decide +kernel
theorem dX5_blame_59 : decode cX5_blame 59 = .ok (.pop, 1) := by decide +kernel
theorem dX5_blame_60 : decode cX5_blame 60 = .ok (.aload_n 0, 1) := by decide +kernel
theorem dX5_blame_61 : decode cX5_blame 61 = .ok (.getfield 69, 3) := by decide +kernel
theorem dX5_blame_64 : decode cX5_blame 64 = .ok (.aload_n 0, 1) := by decide +kernel
theorem dX5_blame_65 : decode cX5_blame 65 = .ok (.getfield 27, 3) := by decide +kernel
theorem dX5_blame_68 : decode cX5_blame 68 = .ok (.getfield 159, 3) := by decide +kernel
theorem dX5_blame_71 : decode cX5_blame 71 = .ok (.invokevirtual 162, 3) := by decide +kernel
theorem dX5_blame_74 : decode cX5_blame 74 = .ok (.istore 5, 2) := by decide +kernel
theorem dX5_blame_76 : decode cX5_blame 76 = .ok (.iload 5, 2) := by decide +kernel
theorem dX5_blame_78 : decode cX5_blame 78 = .ok (.iload_n 3, 1) := by decide +kernel
theorem dX5_blame_79 : decode cX5_blame 79 = .ok (.if_icmp .ge 9, 3) := by decide +kernel
theorem dX5_blame_82 : decode cX5_blame 82 = .ok (.iload 4, 2) := by decide +kernel
theorem dX5_blame_84 : decode cX5_blame 84 = .ok (.istore_n 2, 1) := by decide +kernel
theorem dX5_blame_85 : decode cX5_blame 85 = .ok (.iload 5, 2) := by decide +kernel
theorem dX5_blame_87 : decode cX5_blame 87 = .ok (.istore_n 3, 1) := by decide +kernel
theorem dX5_blame_88 : decode cX5_blame 88 = .ok (.iinc 4 1, 3) := by decide +kernel
theorem dX5_blame_91 : decode cX5_blame 91 = .ok (.goto (-72), 3) := by decide +kernel
theorem dX5_blame_94 : decode cX5_blame 94 = .ok (.iload_n 1, 1) := by decide +kernel
theorem dX5_blame_95 : decode cX5_blame 95 = .ok (.ifCond .ne 7, 3) := by decide +kernel
theorem dX5_blame_98 : decode cX5_blame 98 = .ok (.iload_n 2, 1) := by decide +kernel
theorem dX5_blame_99 : decode cX5_blame 99 = .ok (.goto 4, 3) := by decide +kernel
theorem dX5_blame_102 : decode cX5_blame 102 = .ok (.iload_n 3, 1) := by decide +kernel
theorem dX5_blame_103 : decode cX5_blame 103 = .ok (.ireturn, 1) := by decide +kernel
set_option maxRecDepth 20000 in
theorem ggX5_fifths_X5_isFrom : GoodIn wsX5_fifths wsX5_isFrom := goodIn_r _ [5] (by decide +kernel) (by decide +kernel)
set_option maxRecDepth 20000 in
theorem gX5_fifths_X5_isFrom : GoodIn wsX5_fifths (va_wsS RX5 96 yX5_isFrom wsX5_isFrom) := goodIn_app (goodIn_of _ (by decide +kernel)) ggX5_fifths_X5_isFrom
set_option maxRecDepth 20000 in
theorem ggX5_fifths_X5_sorest : GoodIn wsX5_fifths wsX5_sorest := goodIn_r _ [8, 9, 10, 11, 12, 13, 14, 15] (by decide +kernel) (by decide +kernel)
set_option maxRecDepth 20000 in
theorem gX5_fifths_X5_sorest : GoodIn wsX5_fifths (va_wsS RX5 212 yX5_sorest wsX5_sorest) := goodIn_app (goodIn_of _ (by decide +kernel)) ggX5_fifths_X5_sorest
theorem dX5_fifths_0 : decode cX5_fifths 0 = .ok (.iload_n 1, 1) := by decide +kernel
theorem dX5_fifths_1 : decode cX5_fifths 1 = .ok (.iconst 0, 1) := by decide +kernel
theorem dX5_fifths_2 : decode cX5_fifths 2 = .ok (.bipush 9, 2) := by decide +kernel
theorem dX5_fifths_4 : decode cX5_fifths 4 = .ok (.invokestatic 96, 3) := by decide +kernel
theorem dX5_fifths_7 : decode cX5_fifths 7 = .ok (.ifCond .eq 13, 3) := by decide +kernel
theorem dX5_fifths_10 : decode cX5_fifths 10 = .ok (.iload_n 2, 1) := by decide +kernel
theorem dX5_fifths_11 : decode cX5_fifths 11 = .ok (.iconst 0, 1) := by decide +kernel
theorem dX5_fifths_12 : decode cX5_fifths 12 = .ok (.bipush 9, 2) := by decide +kernel
theorem dX5_fifths_14 : decode cX5_fifths 14 = .ok (.invokestatic 96, 3) := by decide +kernel
theorem dX5_fifths_17 : decode cX5_fifths 17 = .ok (.ifCond .ne 5, 3) := by decide +kernel
theorem dX5_fifths_20 : decode cX5_fifths 20 = .ok (.iconst (-1), 1) := by decide +kernel
theorem dX5_fifths_21 : decode cX5_fifths 21 = .ok (.ireturn, 1) := by decide +kernel
theorem dX5_fifths_22 : decode cX5_fifths 22 = .ok (.iload_n 3, 1) := by decide +kernel
theorem dX5_fifths_23 : decode cX5_fifths 23 = .ok (.iconst 0, 1) := by decide +kernel
theorem dX5_fifths_24 : decode cX5_fifths 24 = .ok (.iconst 1, 1) := by decide +kernel
theorem dX5_fifths_25 : decode cX5_fifths 25 = .ok (.invokestatic 96, 3) := by decide +kernel
theorem dX5_fifths_28 : decode cX5_fifths 28 = .ok (.ifCond .ne 5, 3) := by decide +kernel
theorem dX5_fifths_31 : decode cX5_fifths 31 = .ok (.iconst (-1), 1) := by decide +kernel
theorem dX5_fifths_32 : decode cX5_fifths 32 = .ok (.ireturn, 1) := by decide +kernel
theorem dX5_fifths_33 : decode cX5_fifths 33 = .ok (.iconst 0, 1) := by decide +kernel
theorem dX5_fifths_34 : decode cX5_fifths 34 = .ok (.istore 4, 2) := by decide +kernel
theorem dX5_fifths_36 : decode cX5_fifths 36 = .ok (.ldc 187, 2) := by decide +kernel
theorem dX5_fifths_38 : decode cX5_fifths 38 = .ok (.istore 5, 2) := by decide +kernel
theorem dX5_fifths_40 : decode cX5_fifths 40 = .ok (.bipush (-20), 2) := by decide +kernel
theorem dX5_fifths_42 : decode cX5_fifths 42 = .ok (.istore 6, 2) := by decide +kernel
theorem dX5_fifths_44 : decode cX5_fifths 44 = .ok (.iload 6, 2) := by decide +kernel
theorem dX5_fifths_46 : decode cX5_fifths 46 = .ok (.bipush 20, 2) := by decide +kernel
theorem dX5_fifths_48 : decode cX5_fifths 48 = .ok (.if_icmp .gt 33, 3) := by decide +kernel
theorem dX5_fifths_51 : decode cX5_fifths 51 = .ok (.iload_n 1, 1) := by decide +kernel
theorem dX5_fifths_52 : decode cX5_fifths 52 = .ok (.iload_n 2, 1) := by decide +kernel
theorem dX5_fifths_53 : decode cX5_fifths 53 = .ok (.iload 6, 2) := by decide +kernel
theorem dX5_fifths_55 : decode cX5_fifths 55 = .ok (.invokestatic 212, 3) := by decide +kernel
theorem dX5_fifths_58 : decode cX5_fifths 58 = .ok (.istore 7, 2) := by decide +kernel
theorem dX5_fifths_60 : decode cX5_fifths 60 = .ok (.iload 7, 2) := by decide +kernel
theorem dX5_fifths_62 : decode cX5_fifths 62 = .ok (.iload 5, 2) := by decide +kernel
theorem dX5_fifths_64 : decode cX5_fifths 64 = .ok (.if_icmp .ge 11, 3) := by decide +kernel
theorem dX5_fifths_67 : decode cX5_fifths 67 = .ok (.iload 6, 2) := by decide +kernel
theorem dX5_fifths_69 : decode cX5_fifths 69 = .ok (.istore 4, 2) := by decide +kernel
theorem dX5_fifths_71 : decode cX5_fifths 71 = .ok (.iload 7, 2) := by decide +kernel
theorem dX5_fifths_73 : decode cX5_fifths 73 = .ok (.istore 5, 2) := by decide +kernel
theorem dX5_fifths_75 : decode cX5_fifths 75 = .ok (.iinc 6 1, 3) := by decide +kernel
theorem dX5_fifths_78 : decode cX5_fifths 78 = .ok (.goto (-34), 3) := by decide +kernel
theorem dX5_fifths_81 : decode cX5_fifths 81 = .ok (.iload_n 3, 1) := by decide +kernel
theorem dX5_fifths_82 : decode cX5_fifths 82 = .ok (.ifCond .ne 11, 3) := by decide +kernel
theorem dX5_fifths_85 : decode cX5_fifths 85 = .ok (.iload 4, 2) := by decide +kernel
theorem dX5_fifths_87 : decode cX5_fifths 87 = .ok (.bipush 20, 2) := by decide +kernel
theorem dX5_fifths_89 : decode cX5_fifths 89 = .ok (.iadd, 1) := by decide +kernel
theorem dX5_fifths_90 : decode cX5_fifths 90 = .ok (.goto 5, 3) := by decide +kernel
theorem dX5_fifths_93 : decode cX5_fifths 93 = .ok (.iload 5, 2) := by decide +kernel
theorem dX5_fifths_95 : decode cX5_fifths 95 = .ok (.ireturn, 1) := by decide +kernel
set_option maxRecDepth 20000 in
theorem ggX5_together_X5_isSomeSet : GoodIn wsX5_together wsX5_isSomeSet := goodIn_r _ [8, 9, 10, 11, 12, 13, 14, 15, 16, 17, 7, 18, 19, 20, 21, 22, 23, 24, 25, 26, 27, 28, 29, 30, 31, 32, 33, 34, 35, 36, 37, 38, 39, 40, 41, 42, 43] (by decide +kernel) (by decide +kernel)
set_option maxRecDepth 20000 in
theorem gX5_together_X5_isSomeSet : GoodIn wsX5_together (wsV RX5 129 RX5 yX5_isSomeSet wsX5_isSomeSet) := goodIn_app (goodIn_of _ (by decide +kernel)) ggX5_together_X5_isSomeSet
set_option maxRecDepth 20000 in
theorem ggX5_together_X5_isFrom : GoodIn wsX5_together wsX5_isFrom := goodIn_r _ [18] (by decide +kernel) (by decide +kernel)
set_option maxRecDepth 20000 in
theorem gX5_together_X5_isFrom : GoodIn wsX5_together (va_wsS RX5 96 yX5_isFrom wsX5_isFrom) := goodIn_app (goodIn_of _ (by decide +kernel)) ggX5_together_X5_isFrom
theorem dX5_together_0 : decode cX5_together 0 = .ok (.aload_n 0, 1) := by decide +kernel
theorem dX5_together_1 : decode cX5_together 1 = .ok (.iload_n 1, 1) := by decide +kernel
theorem dX5_together_2 : decode cX5_together 2 = .ok (.invokevirtual 129, 3) := by decide +kernel
theorem dX5_together_5 : decode cX5_together 5 = .ok (.ifCond .eq 14, 3) := by decide +kernel
theorem dX5_together_8 : decode cX5_together 8 = .ok (.iload_n 2, 1) := by decide +kernel
theorem dX5_together_9 : decode cX5_together 9 = .ok (.iconst 0, 1) := by decide +kernel
theorem dX5_together_10 : decode cX5_together 10 = .ok (.sipush 400, 3) := by decide +kernel
theorem dX5_together_13 : decode cX5_together 13 = .ok (.invokestatic 96, 3) := by decide +kernel
theorem dX5_together_16 : decode cX5_together 16 = .ok (.ifCond .ne 5, 3) := by decide +kernel
theorem dX5_together_19 : decode cX5_together 19 = .ok (.iconst (-1), 1) := by decide +kernel
theorem dX5_together_20 : decode cX5_together 20 = .ok (.ireturn, 1) := by decide +kernel
theorem dX5_together_21 : decode cX5_together 21 = .ok (.aload_n 0, 1) := by decide +kernel
theorem dX5_together_22 : decode cX5_together 22 = .ok (.getfield 59, 3) := by decide +kernel
theorem dX5_together_25 : decode cX5_together 25 = .ok (.bipush 8, 2) := by decide +kernel
theorem dX5_together_27 : decode cX5_together 27 = .ok (.if_icmp .lt 6, 3) := by decide +kernel
theorem dX5_together_30 : decode cX5_together 30 = .ok (.bipush (-3), 2) := by decide +kernel
theorem dX5_together_32 : decode cX5_together 32 = .ok (.ireturn, 1) := by decide +kernel
theorem dX5_together_33 : decode cX5_together 33 = .ok (.aload_n 0, 1) := by decide +kernel
theorem dX5_together_34 : decode cX5_together 34 = .ok (.getfield 53, 3) := by decide +kernel
theorem dX5_together_37 : decode cX5_together 37 = .ok (.aload_n 0, 1) := by decide +kernel
theorem dX5_together_38 : decode cX5_together 38 = .ok (.getfield 59, 3) := by decide +kernel
theorem dX5_together_41 : decode cX5_together 41 = .ok (.iload_n 1, 1) := by decide +kernel
theorem dX5_together_42 : decode cX5_together 42 = .ok (.iastore, 1) := by decide +kernel
theorem dX5_together_43 : decode cX5_together 43 = .ok (.aload_n 0, 1) := by decide +kernel
theorem dX5_together_44 : decode cX5_together 44 = .ok (.getfield 56, 3) := by decide +kernel
theorem dX5_together_47 : decode cX5_together 47 = .ok (.aload_n 0, 1) := by decide +kernel
theorem dX5_together_48 : decode cX5_together 48 = .ok (.getfield 59, 3) := by decide +kernel
theorem dX5_together_51 : decode cX5_together 51 = .ok (.iload_n 2, 1) := by decide +kernel
theorem dX5_together_52 : decode cX5_together 52 = .ok (.sipush 200, 3) := by decide +kernel
theorem dX5_together_55 : decode cX5_together 55 = .ok (.isub, 1) := by decide +kernel
theorem dX5_together_56 : decode cX5_together 56 = .ok (.iastore, 1) := by decide +kernel
theorem dX5_together_57 : decode cX5_together 57 = .ok (.aload_n 0, 1) := by decide +kernel
theorem dX5_together_58 : decode cX5_together 58 = .ok (.dup, 1) := by decide +kernel
theorem dX5_together_59 : decode cX5_together 59 = .ok (.getfield 59, 3) := by decide +kernel
theorem dX5_together_62 : decode cX5_together 62 = .ok (.iconst 1, 1) := by decide +kernel
theorem dX5_together_63 : decode cX5_together 63 = .ok (.iadd, 1) := by decide +kernel
theorem dX5_together_64 : decode cX5_together 64 = .ok (.putfield 59, 3) := by decide +kernel
theorem dX5_together_67 : decode cX5_together 67 = .ok (.aload_n 0, 1) := by decide +kernel
theorem dX5_together_68 : decode cX5_together 68 = .ok (.getfield 59, 3) := by decide +kernel
theorem dX5_together_71 : decode cX5_together 71 = .ok (.ireturn, 1) := by decide +kernel
theorem dX5_forget_0 : decode cX5_forget 0 = .ok (.aload_n 0, 1) := by decide +kernel
theorem dX5_forget_1 : decode cX5_forget 1 = .ok (.getfield 59, 3) := by decide +kernel
theorem dX5_forget_4 : decode cX5_forget 4 = .ok (.istore_n 1, 1) := by decide +kernel
theorem dX5_forget_5 : decode cX5_forget 5 = .ok (.aload_n 0, 1) := by decide +kernel
theorem dX5_forget_6 : decode cX5_forget 6 = .ok (.iconst 0, 1) := by decide +kernel
theorem dX5_forget_7 : decode cX5_forget 7 = .ok (.putfield 59, 3) := by decide +kernel
theorem dX5_forget_10 : decode cX5_forget 10 = .ok (.iload_n 1, 1) := by decide +kernel
theorem dX5_forget_11 : decode cX5_forget 11 = .ok (.ireturn, 1) := by decide +kernel
set_option maxRecDepth 20000 in
theorem ggX5_high_X5_isFrom : GoodIn wsX5_high wsX5_isFrom := goodIn_r _ [6] (by decide +kernel) (by decide +kernel)
set_option maxRecDepth 20000 in
theorem gX5_high_X5_isFrom : GoodIn wsX5_high (va_wsS RX5 96 yX5_isFrom wsX5_isFrom) := goodIn_app (goodIn_of _ (by decide +kernel)) ggX5_high_X5_isFrom
set_option maxRecDepth 20000 in
theorem ggX5_high_X5_explainsAll : GoodIn wsX5_high wsX5_explainsAll := goodIn_r _ [10, 11, 12, 1, 2, 13, 14, 15, 16, 17, 5, 18, 19, 20, 21, 22, 23, 24, 25, 26, 27, 28, 29, 30, 31, 32, 33, 34, 35, 36, 37, 38, 39, 40, 41, 42, 43, 44, 45, 46, 47] (by decide +kernel) (by decide +kernel)
set_option maxRecDepth 20000 in
theorem gX5_high_X5_explainsAll : GoodIn wsX5_high (wsV RX5 215 RX5 yX5_explainsAll wsX5_explainsAll) := goodIn_app (goodIn_of _ (by decide +kernel)) ggX5_high_X5_explainsAll
theorem dX5_high_0 : decode cX5_high 0 = .ok (.iload_n 1, 1) := by decide +kernel
theorem dX5_high_1 : decode cX5_high 1 = .ok (.iconst 0, 1) := by decide +kernel
theorem dX5_high_2 : decode cX5_high 2 = .ok (.iconst 1, 1) := by decide +kernel
theorem dX5_high_3 : decode cX5_high 3 = .ok (.invokestatic 96, 3) := by decide +kernel
theorem dX5_high_6 : decode cX5_high 6 = .ok (.ifCond .ne 5, 3) := by decide +kernel
theorem dX5_high_9 : decode cX5_high 9 = .ok (.iconst (-1), 1) := by decide +kernel
theorem dX5_high_10 : decode cX5_high 10 = .ok (.ireturn, 1) := by decide +kernel
theorem dX5_high_11 : decode cX5_high 11 = .ok (.iconst 0, 1) := by decide +kernel
theorem dX5_high_12 : decode cX5_high 12 = .ok (.istore_n 2, 1) := by decide +kernel
theorem dX5_high_13 : decode cX5_high 13 = .ok (.bipush (-4), 2) := by decide +kernel
theorem dX5_high_15 : decode cX5_high 15 = .ok (.istore_n 3, 1) := by decide +kernel
theorem dX5_high_16 : decode cX5_high 16 = .ok (.iconst 0, 1) := by decide +kernel
theorem dX5_high_17 : decode cX5_high 17 = .ok (.istore 4, 2) := by decide +kernel
theorem dX5_high_19 : decode cX5_high 19 = .ok (.iload 4, 2) := by decide +kernel
theorem dX5_high_21 : decode cX5_high 21 = .ok (.aload_n 0, 1) := by decide +kernel
theorem dX5_high_22 : decode cX5_high 22 = .ok (.getfield 27, 3) := by decide +kernel
theorem dX5_high_25 : decode cX5_high 25 = .ok (.getfield 159, 3) := by decide +kernel
theorem dX5_high_28 : decode cX5_high 28 = .ok (.if_icmp .ge 64, 3) := by decide +kernel
theorem dX5_high_31 : decode cX5_high 31 = .ok (.bipush (-9), 2) := by decide +kernel
theorem dX5_high_33 : decode cX5_high 33 = .ok (.istore 5, 2) := by decide +kernel
theorem dX5_high_35 : decode cX5_high 35 = .ok (.iload 5, 2) := by decide +kernel
theorem dX5_high_37 : decode cX5_high 37 = .ok (.bipush 9, 2) := by decide +kernel
theorem dX5_high_39 : decode cX5_high 39 = .ok (.if_icmp .gt 47, 3) := by decide +kernel
theorem dX5_high_42 : decode cX5_high 42 = .ok (.iload 5, 2) := by decide +kernel
theorem dX5_high_44 : decode cX5_high 44 = .ok (.ifCond .eq 36, 3) := by decide +kernel
theorem dX5_high_47 : decode cX5_high 47 = .ok (.aload_n 0, 1) := by decide +kernel
theorem dX5_high_48 : decode cX5_high 48 = .ok (.iload 4, 2) := by decide +kernel
theorem dX5_high_50 : decode cX5_high 50 = .ok (.iload 5, 2) := by decide +kernel
theorem dX5_high_52 : decode cX5_high 52 = .ok (.invokevirtual 215, 3) := by decide +kernel
theorem dX5_high_55 : decode cX5_high 55 = .ok (.ifCond .ne 6, 3) := by decide +kernel
theorem dX5_high_58 : decode cX5_high 58 = .ok (.goto 22, 3) := by decide +kernel
theorem dX5_high_61 : decode cX5_high 61 = .ok (.iload_n 2, 1) := by decide +kernel
theorem dX5_high_62 : decode cX5_high 62 = .ok (.ifCond .ne 15, 3) := by decide +kernel
theorem dX5_high_65 : decode cX5_high 65 = .ok (.bipush 20, 2) := by decide +kernel
theorem dX5_high_67 : decode cX5_high 67 = .ok (.iload 4, 2) := by decide +kernel
theorem dX5_high_69 : decode cX5_high 69 = .ok (.imul, 1) := by decide +kernel
theorem dX5_high_70 : decode cX5_high 70 = .ok (.iload 5, 2) := by decide +kernel
theorem dX5_high_72 : decode cX5_high 72 = .ok (.iadd, 1) := by decide +kernel
theorem dX5_high_73 : decode cX5_high 73 = .ok (.bipush 9, 2) := by decide +kernel
theorem dX5_high_75 : decode cX5_high 75 = .ok (.iadd, 1) := by decide +kernel
theorem dX5_high_76 : decode cX5_high 76 = .ok (.istore_n 3, 1) := by decide +kernel
theorem dX5_high_77 : decode cX5_high 77 = .ok (.iinc 2 1, 3) := by decide +kernel
theorem dX5_high_80 : decode cX5_high 80 = .ok (.iinc 5 1, 3) := by decide +kernel
theorem dX5_high_83 : decode cX5_high 83 = .ok (.goto (-48), 3) := by decide +kernel
theorem dX5_high_86 : decode cX5_high 86 = .ok (.iinc 4 1, 3) := by decide +kernel
theorem dX5_high_89 : decode cX5_high 89 = .ok (.goto (-70), 3) := by decide +kernel
theorem dX5_high_92 : decode cX5_high 92 = .ok (.iload_n 1, 1) := by decide +kernel
theorem dX5_high_93 : decode cX5_high 93 = .ok (.ifCond .ne 7, 3) := by decide +kernel
theorem dX5_high_96 : decode cX5_high 96 = .ok (.iload_n 2, 1) := by decide +kernel
theorem dX5_high_97 : decode cX5_high 97 = .ok (.goto 4, 3) := by decide +kernel
theorem dX5_high_100 : decode cX5_high 100 = .ok (.iload_n 3, 1) := by decide +kernel
theorem dX5_high_101 : decode cX5_high 101 = .ok (.ireturn, 1) := by decide +kernel
set_option maxRecDepth 20000 in
theorem ggX5_odds_X5_isFrom : GoodIn wsX5_odds wsX5_isFrom := goodIn_r _ [7] (by decide +kernel) (by decide +kernel)
set_option maxRecDepth 20000 in
theorem gX5_odds_X5_isFrom : GoodIn wsX5_odds (va_wsS RX5 96 yX5_isFrom wsX5_isFrom) := goodIn_app (goodIn_of _ (by decide +kernel)) ggX5_odds_X5_isFrom
set_option maxRecDepth 20000 in
theorem ggX5_odds_X0_peggedDesks : GoodIn wsX5_odds wsX0_peggedDesks := goodIn_r _ [12, 13, 14, 91, 92, 93, 94, 95, 96, 97, 98, 99, 100, 101] (by decide +kernel) (by decide +kernel)
set_option maxRecDepth 20000 in
theorem gX5_odds_X0_peggedDesks : GoodIn wsX5_odds (wsV RX5 218 RX0 yX0_peggedDesks wsX0_peggedDesks) := goodIn_app (goodIn_of _ (by decide +kernel)) ggX5_odds_X0_peggedDesks
set_option maxRecDepth 20000 in
theorem ggX5_odds_X5_startTrial : GoodIn wsX5_odds wsX5_startTrial := goodIn_r _ [18, 2, 19, 20, 21, 22, 23, 24, 25, 26, 27, 28, 29, 30, 31, 32, 33, 34, 35, 36, 77, 78, 79, 80, 81, 82, 83, 84, 85, 86, 87, 88, 89, 90, 102, 103, 104, 105, 106, 107, 108, 109, 110] (by decide +kernel) (by decide +kernel)
set_option maxRecDepth 20000 in
theorem gX5_odds_X5_startTrial : GoodIn wsX5_odds (wsV RX5 174 RX5 yX5_startTrial wsX5_startTrial) := goodIn_app (goodIn_of _ (by decide +kernel)) ggX5_odds_X5_startTrial
set_option maxRecDepth 20000 in
theorem ggX5_odds_X2_slipPegs : GoodIn wsX5_odds wsX2_slipPegs := goodIn_r _ [40, 26, 41, 6, 42, 43, 44, 45, 46, 47, 48, 49, 50, 51, 102, 103, 104, 105] (by decide +kernel) (by decide +kernel)
set_option maxRecDepth 20000 in
theorem gX5_odds_X2_slipPegs : GoodIn wsX5_odds (wsV RX5 221 RX2 yX2_slipPegs wsX2_slipPegs) := goodIn_app (goodIn_of _ (by decide +kernel)) ggX5_odds_X2_slipPegs
set_option maxRecDepth 20000 in
theorem ggX5_odds_X2_twosHeard : GoodIn wsX5_odds wsX2_twosHeard := goodIn_r _ [55, 56, 26, 57, 58, 47, 59, 60, 91, 92, 93, 94, 95, 96, 97, 98, 99, 100, 101, 102, 103, 104, 105] (by decide +kernel) (by decide +kernel)
set_option maxRecDepth 20000 in
theorem gX5_odds_X2_twosHeard : GoodIn wsX5_odds (wsV RX5 166 RX2 yX2_twosHeard wsX2_twosHeard) := goodIn_app (goodIn_of _ (by decide +kernel)) ggX5_odds_X2_twosHeard
set_option maxRecDepth 20000 in
theorem ggX5_odds_J6_bitCount_0f7a4 : GoodIn wsX5_odds wsJ6_bitCount_0f7a4 := goodIn_r _ [64, 65, 66, 67] (by decide +kernel) (by decide +kernel)
set_option maxRecDepth 20000 in
theorem gX5_odds_J6_bitCount_0f7a4 : GoodIn wsX5_odds (va_wsS RX5 200 yJ6_bitCount_0f7a4 wsJ6_bitCount_0f7a4) := goodIn_app (goodIn_of _ (by decide +kernel)) ggX5_odds_J6_bitCount_0f7a4
set_option maxRecDepth 20000 in
theorem ggX5_odds_X5_power : GoodIn wsX5_odds wsX5_power := goodIn_r _ [70] (by decide +kernel) (by decide +kernel)
set_option maxRecDepth 20000 in
theorem gX5_odds_X5_power : GoodIn wsX5_odds (va_wsS RX5 224 yX5_power wsX5_power) := goodIn_app (goodIn_of _ (by decide +kernel)) ggX5_odds_X5_power
set_option maxRecDepth 20000 in
theorem ggX5_odds_X5_partOfFraction : GoodIn wsX5_odds wsX5_partOfFraction := goodIn_r _ [73, 49, 50, 47, 51, 74, 75, 6, 76] (by decide +kernel) (by decide +kernel)
set_option maxRecDepth 20000 in
theorem gX5_odds_X5_partOfFraction : GoodIn wsX5_odds (va_wsS RX5 170 yX5_partOfFraction wsX5_partOfFraction) := goodIn_app (goodIn_of _ (by decide +kernel)) ggX5_odds_X5_partOfFraction
theorem dX5_odds_0 : decode cX5_odds 0 = .ok (.iload_n 1, 1) := by decide +kernel
theorem dX5_odds_1 : decode cX5_odds 1 = .ok (.iconst 0, 1) := by decide +kernel
theorem dX5_odds_2 : decode cX5_odds 2 = .ok (.bipush 10, 2) := by decide +kernel
theorem dX5_odds_4 : decode cX5_odds 4 = .ok (.invokestatic 96, 3) := by decide +kernel
theorem dX5_odds_7 : decode cX5_odds 7 = .ok (.ifCond .eq 12, 3) := by decide +kernel
theorem dX5_odds_10 : decode cX5_odds 10 = .ok (.iload_n 2, 1) := by decide +kernel
theorem dX5_odds_11 : decode cX5_odds 11 = .ok (.iconst 0, 1) := by decide +kernel
theorem dX5_odds_12 : decode cX5_odds 12 = .ok (.iconst 1, 1) := by decide +kernel
theorem dX5_odds_13 : decode cX5_odds 13 = .ok (.invokestatic 96, 3) := by decide +kernel
theorem dX5_odds_16 : decode cX5_odds 16 = .ok (.ifCond .ne 5, 3) := by decide +kernel
theorem dX5_odds_19 : decode cX5_odds 19 = .ok (.iconst (-1), 1) := by decide +kernel
theorem dX5_odds_20 : decode cX5_odds 20 = .ok (.ireturn, 1) := by decide +kernel
theorem dX5_odds_21 : decode cX5_odds 21 = .ok (.aload_n 0, 1) := by decide +kernel
theorem dX5_odds_22 : decode cX5_odds 22 = .ok (.getfield 27, 3) := by decide +kernel
theorem dX5_odds_25 : decode cX5_odds 25 = .ok (.invokevirtual 218, 3) := by decide +kernel
theorem dX5_odds_28 : decode cX5_odds 28 = .ok (.istore_n 3, 1) := by decide +kernel
theorem dX5_odds_29 : decode cX5_odds 29 = .ok (.iconst 0, 1) := by decide +kernel
theorem dX5_odds_30 : decode cX5_odds 30 = .ok (.istore 4, 2) := by decide +kernel
theorem dX5_odds_32 : decode cX5_odds 32 = .ok (.iconst 0, 1) := by decide +kernel
theorem dX5_odds_33 : decode cX5_odds 33 = .ok (.istore 5, 2) := by decide +kernel
theorem dX5_odds_35 : decode cX5_odds 35 = .ok (.iload 5, 2) := by decide +kernel
theorem dX5_odds_37 : decode cX5_odds 37 = .ok (.iload_n 3, 1) := by decide +kernel
theorem dX5_odds_38 : decode cX5_odds 38 = .ok (.if_icmp .gt 89, 3) := by decide +kernel
theorem dX5_odds_41 : decode cX5_odds 41 = .ok (.iload 5, 2) := by decide +kernel
theorem dX5_odds_43 : decode cX5_odds 43 = .ok (.iload_n 3, 1) := by decide +kernel
theorem dX5_odds_44 : decode cX5_odds 44 = .ok (.iconst (-1), 1) := by decide +kernel
theorem dX5_odds_45 : decode cX5_odds 45 = .ok (.ixor, 1) := by decide +kernel
theorem dX5_odds_46 : decode cX5_odds 46 = .ok (.iand, 1) := by decide +kernel
theorem dX5_odds_47 : decode cX5_odds 47 = .ok (.ifCond .eq 6, 3) := by decide +kernel
theorem dX5_odds_50 : decode cX5_odds 50 = .ok (.goto 71, 3) := by decide +kernel
theorem dX5_odds_53 : decode cX5_odds 53 = .ok (.aload_n 0, 1) := by decide +kernel
theorem dX5_odds_54 : decode cX5_odds 54 = .ok (.invokevirtual 174, 3) := by decide +kernel
theorem dX5_odds_57 : decode cX5_odds 57 = .ok (.aload_n 0, 1) := by decide +kernel
theorem dX5_odds_58 : decode cX5_odds 58 = .ok (.getfield 69, 3) := by decide +kernel
theorem dX5_odds_61 : decode cX5_odds 61 = .ok (.aload_n 0, 1) := by decide +kernel
theorem dX5_odds_62 : decode cX5_odds 62 = .ok (.getfield 27, 3) := by decide +kernel
theorem dX5_odds_65 : decode cX5_odds 65 = .ok (.getfield 159, 3) := by decide +kernel
theorem dX5_odds_68 : decode cX5_odds 68 = .ok (.iload 5, 2) := by decide +kernel
theorem dX5_odds_70 : decode cX5_odds 70 = .ok (.invokevirtual 221, 3) := by decide +kernel
theorem dX5_odds_73 : decode cX5_odds 73 = .ok (.aload_n 0, 1) := by decide +kernel
theorem dX5_odds_74 : decode cX5_odds 74 = .ok (.getfield 69, 3) := by decide +kernel
theorem dX5_odds_77 : decode cX5_odds 77 = .ok (.aload_n 0, 1) := by decide +kernel
theorem dX5_odds_78 : decode cX5_odds 78 = .ok (.getfield 27, 3) := by decide +kernel
theorem dX5_odds_81 : decode cX5_odds 81 = .ok (.invokevirtual 166, 3) := by decide +kernel
theorem dX5_odds_84 : decode cX5_odds 84 = .ok (.ifCond .le 6, 3) := by decide +kernel
theorem dX5_odds_87 : decode cX5_odds 87 = .ok (.goto 34, 3) := by decide +kernel
theorem dX5_odds_90 : decode cX5_odds 90 = .ok (.iload 4, 2) := by decide +kernel
theorem dX5_odds_92 : decode cX5_odds 92 = .ok (.iload_n 1, 1) := by decide +kernel
theorem dX5_odds_93 : decode cX5_odds 93 = .ok (.iload 5, 2) := by decide +kernel
theorem dX5_odds_95 : decode cX5_odds 95 = .ok (.invokestatic 200, 3) := by decide +kernel
theorem dX5_odds_98 : decode cX5_odds 98 = .ok (.invokestatic 224, 3) := by decide +kernel
theorem dX5_odds_101 : decode cX5_odds 101 = .ok (.bipush 10, 2) := by decide +kernel
theorem dX5_odds_103 : decode cX5_odds 103 = .ok (.iload_n 1, 1) := by decide +kernel
theorem dX5_odds_104 : decode cX5_odds 104 = .ok (.isub, 1) := by decide +kernel
theorem dX5_odds_105 : decode cX5_odds 105 = .ok (.iload_n 3, 1) := by decide +kernel
theorem dX5_odds_106 : decode cX5_odds 106 = .ok (.iload 5, 2) := by decide +kernel
theorem dX5_odds_108 : decode cX5_odds 108 = .ok (.iconst (-1), 1) := by decide +kernel
theorem dX5_odds_109 : decode cX5_odds 109 = .ok (.ixor, 1) := by decide +kernel
theorem dX5_odds_110 : decode cX5_odds 110 = .ok (.iand, 1) := by decide +kernel
theorem dX5_odds_111 : decode cX5_odds 111 = .ok (.invokestatic 200, 3) := by decide +kernel
theorem dX5_odds_114 : decode cX5_odds 114 = .ok (.invokestatic 224, 3) := by decide +kernel
theorem dX5_odds_117 : decode cX5_odds 117 = .ok (.imul, 1) := by decide +kernel
theorem dX5_odds_118 : decode cX5_odds 118 = .ok (.iadd, 1) := by decide +kernel
theorem dX5_odds_119 : decode cX5_odds 119 = .ok (.istore 4, 2) := by decide +kernel
theorem dX5_odds_121 : decode cX5_odds 121 = .ok (.iinc 5 1, 3) := by decide +kernel
theorem dX5_odds_124 : decode cX5_odds 124 = .ok (.goto (-89), 3) := by decide +kernel
theorem dX5_odds_127 : decode cX5_odds 127 = .ok (.iload 4, 2) := by decide +kernel
theorem dX5_odds_129 : decode cX5_odds 129 = .ok (.bipush 10, 2) := by decide +kernel
theorem dX5_odds_131 : decode cX5_odds 131 = .ok (.iload_n 3, 1) := by decide +kernel
theorem dX5_odds_132 : decode cX5_odds 132 = .ok (.invokestatic 200, 3) := by decide +kernel
theorem dX5_odds_135 : decode cX5_odds 135 = .ok (.invokestatic 224, 3) := by decide +kernel
theorem dX5_odds_138 : decode cX5_odds 138 = .ok (.iload_n 2, 1) := by decide +kernel
theorem dX5_odds_139 : decode cX5_odds 139 = .ok (.invokestatic 170, 3) := by decide +kernel
theorem dX5_odds_142 : decode cX5_odds 142 = .ok (.ireturn, 1) := by decide +kernel
set_option maxRecDepth 20000 in
theorem ggX5_evening_X5_isFrom : GoodIn wsX5_evening wsX5_isFrom := goodIn_r _ [8] (by decide +kernel) (by decide +kernel)
set_option maxRecDepth 20000 in
theorem gX5_evening_X5_isFrom : GoodIn wsX5_evening (va_wsS RX5 96 yX5_isFrom wsX5_isFrom) := goodIn_app (goodIn_of _ (by decide +kernel)) ggX5_evening_X5_isFrom
set_option maxRecDepth 20000 in
theorem ggX5_evening_X5_startTrial : GoodIn wsX5_evening wsX5_startTrial := goodIn_r _ [12, 3, 13, 1, 14, 15, 16, 17, 18, 19, 20, 21, 22, 23, 24, 25, 26, 27, 28, 29, 133, 134, 135, 136, 137, 138, 139, 140, 141, 142, 143, 144, 145, 146, 158, 159, 160, 161, 162, 163, 164, 165, 166] (by decide +kernel) (by decide +kernel)
set_option maxRecDepth 20000 in
theorem gX5_evening_X5_startTrial : GoodIn wsX5_evening (wsV RX5 174 RX5 yX5_startTrial wsX5_startTrial) := goodIn_app (goodIn_of _ (by decide +kernel)) ggX5_evening_X5_startTrial
set_option maxRecDepth 20000 in
theorem ggX5_evening_X4_drawBy : GoodIn wsX5_evening wsX4_drawBy := goodIn_r _ [33, 29, 34, 35, 162, 163, 164, 165, 166] (by decide +kernel) (by decide +kernel)
set_option maxRecDepth 20000 in
theorem gX5_evening_X4_drawBy : GoodIn wsX5_evening (wsV RX5 227 RX4 yX4_drawBy wsX4_drawBy) := goodIn_app (goodIn_of _ (by decide +kernel)) ggX5_evening_X4_drawBy
set_option maxRecDepth 20000 in
theorem ggX5_evening_X4_letGroupsTune : GoodIn wsX5_evening wsX4_letGroupsTune := goodIn_r _ [39, 40, 41, 42, 43, 44, 45, 46, 47, 48, 49, 26, 50, 51, 52, 53, 54, 55, 56, 57, 58, 59, 60, 61, 62, 63, 64, 65, 66, 67, 7, 68, 69, 70, 71, 72, 73, 74, 75, 76, 15, 16, 17, 18, 19, 20, 21, 22, 77, 78, 79, 80, 28, 81, 82, 83, 84, 85, 86, 87, 88, 89, 90, 91, 92, 93, 94, 95, 96, 97, 98, 29, 99, 34, 100, 35, 101, 102, 103, 104, 105, 106, 107, 108, 109, 110, 111, 112, 113, 114, 115, 116, 117, 118, 147, 148, 149, 150, 151, 152, 153, 154, 155, 156, 157, 162, 163, 164, 165, 166, 158, 159, 160, 161] (by decide +kernel) (by decide +kernel)
set_option maxRecDepth 20000 in
theorem gX5_evening_X4_letGroupsTune : GoodIn wsX5_evening (wsV RX5 177 RX4 yX4_letGroupsTune wsX4_letGroupsTune) := goodIn_app (goodIn_of _ (by decide +kernel)) ggX5_evening_X4_letGroupsTune
set_option maxRecDepth 20000 in
theorem ggX5_evening_X2_apart : GoodIn wsX5_evening wsX2_apart := goodIn_r _ [122, 19, 123, 56, 57, 58, 124, 106, 107, 158, 159, 160, 161] (by decide +kernel) (by decide +kernel)
set_option maxRecDepth 20000 in
theorem gX5_evening_X2_apart : GoodIn wsX5_evening (wsV RX5 162 RX2 yX2_apart wsX2_apart) := goodIn_app (goodIn_of _ (by decide +kernel)) ggX5_evening_X2_apart
set_option maxRecDepth 20000 in
theorem ggX5_evening_X2_twosHeard : GoodIn wsX5_evening wsX2_twosHeard := goodIn_r _ [128, 114, 19, 129, 130, 57, 131, 132, 147, 148, 149, 150, 151, 152, 153, 154, 155, 156, 157, 158, 159, 160, 161] (by decide +kernel) (by decide +kernel)
set_option maxRecDepth 20000 in
theorem gX5_evening_X2_twosHeard : GoodIn wsX5_evening (wsV RX5 166 RX2 yX2_twosHeard wsX2_twosHeard) := goodIn_app (goodIn_of _ (by decide +kernel)) ggX5_evening_X2_twosHeard
theorem dX5_evening_0 : decode cX5_evening 0 = .ok (.iload_n 1, 1) := by decide +kernel
theorem dX5_evening_1 : decode cX5_evening 1 = .ok (.iconst 0, 1) := by decide +kernel
theorem dX5_evening_2 : decode cX5_evening 2 = .ok (.sipush 9999, 3) := by decide +kernel
theorem dX5_evening_5 : decode cX5_evening 5 = .ok (.invokestatic 96, 3) := by decide +kernel
theorem dX5_evening_8 : decode cX5_evening 8 = .ok (.ifCond .eq 12, 3) := by decide +kernel
theorem dX5_evening_11 : decode cX5_evening 11 = .ok (.iload_n 2, 1) := by decide +kernel
theorem dX5_evening_12 : decode cX5_evening 12 = .ok (.iconst 0, 1) := by decide +kernel
theorem dX5_evening_13 : decode cX5_evening 13 = .ok (.iconst 1, 1) := by decide +kernel
theorem dX5_evening_14 : decode cX5_evening 14 = .ok (.invokestatic 96, 3) := by decide +kernel
theorem dX5_evening_17 : decode cX5_evening 17 = .ok (.ifCond .ne 5, 3) := by decide +kernel
theorem dX5_evening_20 : decode cX5_evening 20 = .ok (.iconst (-1), 1) := by decide +kernel
theorem dX5_evening_21 : decode cX5_evening 21 = .ok (.ireturn, 1) := by decide +kernel
theorem dX5_evening_22 : decode cX5_evening 22 = .ok (.aload_n 0, 1) := by decide +kernel
theorem dX5_evening_23 : decode cX5_evening 23 = .ok (.invokevirtual 174, 3) := by decide +kernel
theorem dX5_evening_26 : decode cX5_evening 26 = .ok (.aload_n 0, 1) := by decide +kernel
theorem dX5_evening_27 : decode cX5_evening 27 = .ok (.getfield 72, 3) := by decide +kernel
theorem dX5_evening_30 : decode cX5_evening 30 = .ok (.iload_n 1, 1) := by decide +kernel
theorem dX5_evening_31 : decode cX5_evening 31 = .ok (.invokevirtual 227, 3) := by decide +kernel
theorem dX5_evening_34 : decode cX5_evening 34 = .ok (.aload_n 0, 1) := by decide +kernel
theorem dX5_evening_35 : decode cX5_evening 35 = .ok (.getfield 72, 3) := by decide +kernel
theorem dX5_evening_38 : decode cX5_evening 38 = .ok (.aload_n 0, 1) := by decide +kernel
theorem dX5_evening_39 : decode cX5_evening 39 = .ok (.getfield 27, 3) := by decide +kernel
theorem dX5_evening_42 : decode cX5_evening 42 = .ok (.aload_n 0, 1) := by decide +kernel
theorem dX5_evening_43 : decode cX5_evening 43 = .ok (.getfield 69, 3) := by decide +kernel
theorem dX5_evening_46 : decode cX5_evening 46 = .ok (.invokevirtual 177, 3) := by decide +kernel
theorem dX5_evening_49 : decode cX5_evening 49 = .ok (.pop, 1) := by decide +kernel
theorem dX5_evening_50 : decode cX5_evening 50 = .ok (.iload_n 2, 1) := by decide +kernel
theorem dX5_evening_51 : decode cX5_evening 51 = .ok (.ifCond .ne 20, 3) := by decide +kernel
theorem dX5_evening_54 : decode cX5_evening 54 = .ok (.aload_n 0, 1) := by decide +kernel
theorem dX5_evening_55 : decode cX5_evening 55 = .ok (.getfield 69, 3) := by decide +kernel
theorem dX5_evening_58 : decode cX5_evening 58 = .ok (.aload_n 0, 1) := by decide +kernel
theorem dX5_evening_59 : decode cX5_evening 59 = .ok (.getfield 27, 3) := by decide +kernel
theorem dX5_evening_62 : decode cX5_evening 62 = .ok (.getfield 159, 3) := by decide +kernel
theorem dX5_evening_65 : decode cX5_evening 65 = .ok (.invokevirtual 162, 3) := by decide +kernel
theorem dX5_evening_68 : decode cX5_evening 68 = .ok (.goto 14, 3) := by decide +kernel
theorem dX5_evening_71 : decode cX5_evening 71 = .ok (.aload_n 0, 1) := by decide +kernel
theorem dX5_evening_72 : decode cX5_evening 72 = .ok (.getfield 69, 3) := by decide +kernel
theorem dX5_evening_75 : decode cX5_evening 75 = .ok (.aload_n 0, 1) := by decide +kernel
theorem dX5_evening_76 : decode cX5_evening 76 = .ok (.getfield 27, 3) := by decide +kernel
theorem dX5_evening_79 : decode cX5_evening 79 = .ok (.invokevirtual 166, 3) := by decide +kernel
theorem dX5_evening_82 : decode cX5_evening 82 = .ok (.ireturn, 1) := by decide +kernel
set_option maxRecDepth 20000 in
theorem ggX5_keep_X1_put : GoodIn wsX5_keep wsX1_put := goodIn_r _ [8, 9, 10, 11, 12, 13, 14, 15, 16, 17, 18, 19, 20, 21, 22, 23, 24, 39, 40, 41, 42, 43, 44, 45] (by decide +kernel) (by decide +kernel)
set_option maxRecDepth 20000 in
theorem gX5_keep_X1_put : GoodIn wsX5_keep (wsV RX5 132 RX1 yX1_put wsX1_put) := goodIn_app (goodIn_of _ (by decide +kernel)) ggX5_keep_X1_put
theorem dX5_keep_0 : decode cX5_keep 0 = .ok (.aload_n 0, 1) := by decide +kernel
theorem dX5_keep_1 : decode cX5_keep 1 = .ok (.getfield 50, 3) := by decide +kernel
theorem dX5_keep_4 : decode cX5_keep 4 = .ok (.getfield 156, 3) := by decide +kernel
theorem dX5_keep_7 : decode cX5_keep 7 = .ok (.iconst 2, 1) := by decide +kernel
theorem dX5_keep_8 : decode cX5_keep 8 = .ok (.if_icmp .lt 6, 3) := by decide +kernel
theorem dX5_keep_11 : decode cX5_keep 11 = .ok (.bipush (-3), 2) := by decide +kernel
theorem dX5_keep_13 : decode cX5_keep 13 = .ok (.ireturn, 1) := by decide +kernel
theorem dX5_keep_14 : decode cX5_keep 14 = .ok (.aload_n 0, 1) := by decide +kernel
theorem dX5_keep_15 : decode cX5_keep 15 = .ok (.getfield 50, 3) := by decide +kernel
theorem dX5_keep_18 : decode cX5_keep 18 = .ok (.aload_n 0, 1) := by decide +kernel
theorem dX5_keep_19 : decode cX5_keep 19 = .ok (.getfield 37, 3) := by decide +kernel
theorem dX5_keep_22 : decode cX5_keep 22 = .ok (.invokevirtual 132, 3) := by decide +kernel
theorem dX5_keep_25 : decode cX5_keep 25 = .ok (.aload_n 0, 1) := by decide +kernel
theorem dX5_keep_26 : decode cX5_keep 26 = .ok (.getfield 50, 3) := by decide +kernel
theorem dX5_keep_29 : decode cX5_keep 29 = .ok (.getfield 156, 3) := by decide +kernel
theorem dX5_keep_32 : decode cX5_keep 32 = .ok (.ireturn, 1) := by decide +kernel
set_option maxRecDepth 20000 in
theorem ggX5_back_X1_takeInto : GoodIn wsX5_back wsX1_takeInto := goodIn_r _ [9, 10, 11, 12, 13, 14, 15, 16, 17, 18, 19, 20, 21, 40, 41, 42, 43, 44, 45, 46] (by decide +kernel) (by decide +kernel)
set_option maxRecDepth 20000 in
theorem gX5_back_X1_takeInto : GoodIn wsX5_back (wsV RX5 152 RX1 yX1_takeInto wsX1_takeInto) := goodIn_app (goodIn_of _ (by decide +kernel)) ggX5_back_X1_takeInto
set_option maxRecDepth 20000 in
theorem ggX5_back_X1_empty : GoodIn wsX5_back wsX1_empty := goodIn_r _ [25, 10, 40, 41, 42] (by decide +kernel) (by decide +kernel)
set_option maxRecDepth 20000 in
theorem gX5_back_X1_empty : GoodIn wsX5_back (wsV RX5 230 RX1 yX1_empty wsX1_empty) := goodIn_app (goodIn_of _ (by decide +kernel)) ggX5_back_X1_empty
theorem dX5_back_0 : decode cX5_back 0 = .ok (.aload_n 0, 1) := by decide +kernel
theorem dX5_back_1 : decode cX5_back 1 = .ok (.getfield 50, 3) := by decide +kernel
theorem dX5_back_4 : decode cX5_back 4 = .ok (.aload_n 0, 1) := by decide +kernel
theorem dX5_back_5 : decode cX5_back 5 = .ok (.getfield 37, 3) := by decide +kernel
theorem dX5_back_8 : decode cX5_back 8 = .ok (.invokevirtual 152, 3) := by decide +kernel
theorem dX5_back_11 : decode cX5_back 11 = .ok (.ifCond .ne 6, 3) := by decide +kernel
theorem dX5_back_14 : decode cX5_back 14 = .ok (.bipush (-2), 2) := by decide +kernel
theorem dX5_back_16 : decode cX5_back 16 = .ok (.ireturn, 1) := by decide +kernel
theorem dX5_back_17 : decode cX5_back 17 = .ok (.aload_n 0, 1) := by decide +kernel
theorem dX5_back_18 : decode cX5_back 18 = .ok (.getfield 46, 3) := by decide +kernel
theorem dX5_back_21 : decode cX5_back 21 = .ok (.invokevirtual 230, 3) := by decide +kernel
theorem dX5_back_24 : decode cX5_back 24 = .ok (.aload_n 0, 1) := by decide +kernel
theorem dX5_back_25 : decode cX5_back 25 = .ok (.getfield 50, 3) := by decide +kernel
theorem dX5_back_28 : decode cX5_back 28 = .ok (.getfield 156, 3) := by decide +kernel
theorem dX5_back_31 : decode cX5_back 31 = .ok (.ireturn, 1) := by decide +kernel
theorem dX5_count_0 : decode cX5_count 0 = .ok (.iload_n 1, 1) := by decide +kernel
theorem dX5_count_1 : decode cX5_count 1 = .ok (.tableswitch 116 0 7 #[47, 55, 63, 82, 87, 95, 103, 108], 47) := by decide +kernel
theorem dX5_count_48 : decode cX5_count 48 = .ok (.aload_n 0, 1) := by decide +kernel
theorem dX5_count_49 : decode cX5_count 49 = .ok (.getfield 27, 3) := by decide +kernel
theorem dX5_count_52 : decode cX5_count 52 = .ok (.getfield 159, 3) := by decide +kernel
theorem dX5_count_55 : decode cX5_count 55 = .ok (.ireturn, 1) := by decide +kernel
theorem dX5_count_56 : decode cX5_count 56 = .ok (.aload_n 0, 1) := by decide +kernel
theorem dX5_count_57 : decode cX5_count 57 = .ok (.getfield 37, 3) := by decide +kernel
theorem dX5_count_60 : decode cX5_count 60 = .ok (.getfield 140, 3) := by decide +kernel
theorem dX5_count_63 : decode cX5_count 63 = .ok (.ireturn, 1) := by decide +kernel
theorem dX5_count_64 : decode cX5_count 64 = .ok (.aload_n 0, 1) := by decide +kernel
theorem dX5_count_65 : decode cX5_count 65 = .ok (.getfield 37, 3) := by decide +kernel
theorem dX5_count_68 : decode cX5_count 68 = .ok (.getfield 140, 3) := by decide +kernel
theorem dX5_count_71 : decode cX5_count 71 = .ok (.bipush 60, 2) := by decide +kernel
theorem dX5_count_73 : decode cX5_count 73 = .ok (.idiv, 1) := by decide +kernel
theorem dX5_count_74 : decode cX5_count 74 = .ok (.aload_n 0, 1) := by decide +kernel
theorem dX5_count_75 : decode cX5_count 75 = .ok (.getfield 27, 3) := by decide +kernel
theorem dX5_count_78 : decode cX5_count 78 = .ok (.getfield 233, 3) := by decide +kernel
theorem dX5_count_81 : decode cX5_count 81 = .ok (.imul, 1) := by decide +kernel
theorem dX5_count_82 : decode cX5_count 82 = .ok (.ireturn, 1) := by decide +kernel
theorem dX5_count_83 : decode cX5_count 83 = .ok (.aload_n 0, 1) := by decide +kernel
theorem dX5_count_84 : decode cX5_count 84 = .ok (.getfield 59, 3) := by decide +kernel
theorem dX5_count_87 : decode cX5_count 87 = .ok (.ireturn, 1) := by decide +kernel
theorem dX5_count_88 : decode cX5_count 88 = .ok (.aload_n 0, 1) := by decide +kernel
theorem dX5_count_89 : decode cX5_count 89 = .ok (.getfield 46, 3) := by decide +kernel
theorem dX5_count_92 : decode cX5_count 92 = .ok (.getfield 156, 3) := by decide +kernel
theorem dX5_count_95 : decode cX5_count 95 = .ok (.ireturn, 1) := by decide +kernel
theorem dX5_count_96 : decode cX5_count 96 = .ok (.aload_n 0, 1) := by decide +kernel
theorem dX5_count_97 : decode cX5_count 97 = .ok (.getfield 50, 3) := by decide +kernel
theorem dX5_count_100 : decode cX5_count 100 = .ok (.getfield 156, 3) := by decide +kernel
theorem dX5_count_103 : decode cX5_count 103 = .ok (.ireturn, 1) := by decide +kernel
theorem dX5_count_104 : decode cX5_count 104 = .ok (.aload_n 0, 1) := by decide +kernel
theorem dX5_count_105 : decode cX5_count 105 = .ok (.getfield 13, 3) := by decide +kernel
theorem dX5_count_108 : decode cX5_count 108 = .ok (.ireturn, 1) := by decide +kernel
theorem dX5_count_109 : decode cX5_count 109 = .ok (.aload_n 0, 1) := by decide +kernel
theorem dX5_count_110 : decode cX5_count 110 = .ok (.getfield 27, 3) := by decide +kernel
theorem dX5_count_113 : decode cX5_count 113 = .ok (.getfield 194, 3) := by decide +kernel
theorem dX5_count_116 : decode cX5_count 116 = .ok (.ireturn, 1) := by decide +kernel
theorem dX5_count_117 : decode cX5_count 117 = .ok (.iconst (-1), 1) := by decide +kernel
theorem dX5_count_118 : decode cX5_count 118 = .ok (.ireturn, 1) := by decide +kernel
set_option maxRecDepth 20000 in
theorem ggX5_layText_X3_readInto : GoodIn wsX5_layText wsX3_readInto := goodIn_r _ [15, 16, 17, 18, 19, 20, 21, 22, 23, 24, 25, 26, 27, 28, 29, 30, 31, 32, 33, 14, 34, 35, 36, 37, 38, 39, 40, 41, 42, 43, 44, 45, 46, 47, 48, 49, 50, 51, 52, 53, 54, 55, 56, 57, 58, 59, 60, 61, 62, 63, 64, 65, 66, 67, 68, 69, 70, 71, 72, 73, 74, 75, 76, 77, 131, 132, 120, 121, 122, 123, 124, 125, 126, 127, 128, 129, 130] (by decide +kernel) (by decide +kernel)
set_option maxRecDepth 20000 in
theorem gX5_layText_X3_readInto : GoodIn wsX5_layText (wsV RX5 100 RX3 yX3_readInto wsX3_readInto) := goodIn_app (goodIn_of _ (by decide +kernel)) ggX5_layText_X3_readInto
set_option maxRecDepth 20000 in
theorem ggX5_layText_X0_canBeLaid : GoodIn wsX5_layText wsX0_canBeLaid := goodIn_r _ [81, 26, 71, 82, 83, 84, 24, 85, 86, 75, 76, 77, 120, 121, 122, 123, 124, 125, 126, 127, 128, 129, 130] (by decide +kernel) (by decide +kernel)
set_option maxRecDepth 20000 in
theorem gX5_layText_X0_canBeLaid : GoodIn wsX5_layText (wsV RX5 236 RX0 yX0_canBeLaid wsX0_canBeLaid) := goodIn_app (goodIn_of _ (by decide +kernel)) ggX5_layText_X0_canBeLaid
set_option maxRecDepth 20000 in
theorem ggX5_layText_X2_begin : GoodIn wsX5_layText wsX2_begin := goodIn_r _ [91, 92, 93, 94, 95, 96, 97, 98, 99, 120, 121, 122, 123, 124, 125, 126, 127, 128, 129, 130, 133, 134, 135, 136] (by decide +kernel) (by decide +kernel)
set_option maxRecDepth 20000 in
theorem gX5_layText_X2_begin : GoodIn wsX5_layText (wsV RX5 240 RX2 yX2_begin wsX2_begin) := goodIn_app (goodIn_of _ (by decide +kernel)) ggX5_layText_X2_begin
set_option maxRecDepth 20000 in
theorem ggX5_layText_X1_empty : GoodIn wsX5_layText wsX1_empty := goodIn_r _ [104, 105, 137, 138, 139] (by decide +kernel) (by decide +kernel)
set_option maxRecDepth 20000 in
theorem gX5_layText_X1_empty : GoodIn wsX5_layText (wsV RX5 230 RX1 yX1_empty wsX1_empty) := goodIn_app (goodIn_of _ (by decide +kernel)) ggX5_layText_X1_empty
theorem dX5_layText_0 : decode cX5_layText 0 = .ok (.aload_n 0, 1) := by decide +kernel
theorem dX5_layText_1 : decode cX5_layText 1 = .ok (.getfield 20, 3) := by decide +kernel
theorem dX5_layText_4 : decode cX5_layText 4 = .ok (.aload_n 0, 1) := by decide +kernel
theorem dX5_layText_5 : decode cX5_layText 5 = .ok (.getfield 31, 3) := by decide +kernel
theorem dX5_layText_8 : decode cX5_layText 8 = .ok (.aload_n 0, 1) := by decide +kernel
theorem dX5_layText_9 : decode cX5_layText 9 = .ok (.getfield 9, 3) := by decide +kernel
theorem dX5_layText_12 : decode cX5_layText 12 = .ok (.aload_n 0, 1) := by decide +kernel
theorem dX5_layText_13 : decode cX5_layText 13 = .ok (.getfield 13, 3) := by decide +kernel
theorem dX5_layText_16 : decode cX5_layText 16 = .ok (.invokevirtual 100, 3) := by decide +kernel
theorem dX5_layText_19 : decode cX5_layText 19 = .ok (.bipush (-4), 2) := by decide +kernel
theorem dX5_layText_21 : decode cX5_layText 21 = .ok (.if_icmp .ne 13, 3) := by decide +kernel
theorem dX5_layText_24 : decode cX5_layText 24 = .ok (.aload_n 0, 1) := by decide +kernel
theorem dX5_layText_25 : decode cX5_layText 25 = .ok (.getfield 31, 3) := by decide +kernel
theorem dX5_layText_28 : decode cX5_layText 28 = .ok (.invokevirtual 236, 3) := by decide +kernel
theorem dX5_layText_31 : decode cX5_layText 31 = .ok (.ifCond .ne 6, 3) := by decide +kernel
theorem dX5_layText_34 : decode cX5_layText 34 = .ok (.bipush (-2), 2) := by decide +kernel
theorem dX5_layText_36 : decode cX5_layText 36 = .ok (.ireturn, 1) := by decide +kernel
theorem dX5_layText_37 : decode cX5_layText 37 = .ok (.aload_n 0, 1) := by decide +kernel
theorem dX5_layText_38 : decode cX5_layText 38 = .ok (.getfield 27, 3) := by decide +kernel
theorem dX5_layText_41 : decode cX5_layText 41 = .ok (.astore_n 1, 1) := by decide +kernel
theorem dX5_layText_42 : decode cX5_layText 42 = .ok (.aload_n 0, 1) := by decide +kernel
theorem dX5_layText_43 : decode cX5_layText 43 = .ok (.aload_n 0, 1) := by decide +kernel
theorem dX5_layText_44 : decode cX5_layText 44 = .ok (.getfield 31, 3) := by decide +kernel
theorem dX5_layText_47 : decode cX5_layText 47 = .ok (.putfield 27, 3) := by decide +kernel
theorem dX5_layText_50 : decode cX5_layText 50 = .ok (.aload_n 0, 1) := by decide +kernel
theorem dX5_layText_51 : decode cX5_layText 51 = .ok (.aload_n 1, 1) := by decide +kernel
theorem dX5_layText_52 : decode cX5_layText 52 = .ok (.putfield 31, 3) := by decide +kernel
theorem dX5_layText_55 : decode cX5_layText 55 = .ok (.aload_n 0, 1) := by decide +kernel
theorem dX5_layText_56 : decode cX5_layText 56 = .ok (.getfield 37, 3) := by decide +kernel
theorem dX5_layText_59 : decode cX5_layText 59 = .ok (.aload_n 0, 1) := by decide +kernel
theorem dX5_layText_60 : decode cX5_layText 60 = .ok (.getfield 27, 3) := by decide +kernel
theorem dX5_layText_63 : decode cX5_layText 63 = .ok (.invokevirtual 240, 3) := by decide +kernel
theorem dX5_layText_66 : decode cX5_layText 66 = .ok (.aload_n 0, 1) := by decide +kernel
theorem dX5_layText_67 : decode cX5_layText 67 = .ok (.getfield 46, 3) := by decide +kernel
theorem dX5_layText_70 : decode cX5_layText 70 = .ok (.invokevirtual 230, 3) := by decide +kernel
theorem dX5_layText_73 : decode cX5_layText 73 = .ok (.aload_n 0, 1) := by decide +kernel
theorem dX5_layText_74 : decode cX5_layText 74 = .ok (.getfield 50, 3) := by decide +kernel
theorem dX5_layText_77 : decode cX5_layText 77 = .ok (.invokevirtual 230, 3) := by decide +kernel
theorem dX5_layText_80 : decode cX5_layText 80 = .ok (.aload_n 0, 1) := by decide +kernel
theorem dX5_layText_81 : decode cX5_layText 81 = .ok (.iconst 0, 1) := by decide +kernel
theorem dX5_layText_82 : decode cX5_layText 82 = .ok (.putfield 59, 3) := by decide +kernel
theorem dX5_layText_85 : decode cX5_layText 85 = .ok (.aload_n 0, 1) := by decide +kernel
theorem dX5_layText_86 : decode cX5_layText 86 = .ok (.getfield 27, 3) := by decide +kernel
theorem dX5_layText_89 : decode cX5_layText 89 = .ok (.getfield 159, 3) := by decide +kernel
theorem dX5_layText_92 : decode cX5_layText 92 = .ok (.ireturn, 1) := by decide +kernel
set_option maxRecDepth 20000 in
theorem ggX5_startTrial_X2_become : GoodIn wsX5_startTrial wsX2_become := goodIn_r _ [8, 9, 10, 11, 12, 34, 35, 36, 37] (by decide +kernel) (by decide +kernel)
set_option maxRecDepth 20000 in
theorem gX5_startTrial_X2_become : GoodIn wsX5_startTrial (wsV RX5 244 RX2 yX2_become wsX2_become) := goodIn_app (goodIn_of _ (by decide +kernel)) ggX5_startTrial_X2_become
set_option maxRecDepth 20000 in
theorem ggX5_startTrial_X4_tuneAsIs : GoodIn wsX5_startTrial wsX4_tuneAsIs := goodIn_r _ [17, 18, 19, 38, 39, 40, 41, 42] (by decide +kernel) (by decide +kernel)
set_option maxRecDepth 20000 in
theorem gX5_startTrial_X4_tuneAsIs : GoodIn wsX5_startTrial (wsV RX5 247 RX4 yX4_tuneAsIs wsX4_tuneAsIs) := goodIn_app (goodIn_of _ (by decide +kernel)) ggX5_startTrial_X4_tuneAsIs
theorem dX5_startTrial_0 : decode cX5_startTrial 0 = .ok (.aload_n 0, 1) := by decide +kernel
theorem dX5_startTrial_1 : decode cX5_startTrial 1 = .ok (.getfield 69, 3) := by decide +kernel
theorem dX5_startTrial_4 : decode cX5_startTrial 4 = .ok (.aload_n 0, 1) := by decide +kernel
theorem dX5_startTrial_5 : decode cX5_startTrial 5 = .ok (.getfield 37, 3) := by decide +kernel
theorem dX5_startTrial_8 : decode cX5_startTrial 8 = .ok (.invokevirtual 244, 3) := by decide +kernel
theorem dX5_startTrial_11 : decode cX5_startTrial 11 = .ok (.aload_n 0, 1) := by decide +kernel
theorem dX5_startTrial_12 : decode cX5_startTrial 12 = .ok (.getfield 72, 3) := by decide +kernel
theorem dX5_startTrial_15 : decode cX5_startTrial 15 = .ok (.invokevirtual 247, 3) := by decide +kernel
theorem dX5_startTrial_18 : decode cX5_startTrial 18 = .ok (.return_, 1) := by decide +kernel
set_option maxRecDepth 20000 in
theorem ggX5_isSomeSet_X0_allDesks : GoodIn wsX5_isSomeSet wsX0_allDesks := goodIn_r _ [6, 7, 26, 27, 28, 29, 30, 31, 32, 33, 34, 35, 36] (by decide +kernel) (by decide +kernel)
set_option maxRecDepth 20000 in
theorem gX5_isSomeSet_X0_allDesks : GoodIn wsX5_isSomeSet (wsV RX5 184 RX0 yX0_allDesks wsX0_allDesks) := goodIn_app (goodIn_of _ (by decide +kernel)) ggX5_isSomeSet_X0_allDesks
set_option maxRecDepth 20000 in
theorem ggX5_isSomeSet_X5_isFrom : GoodIn wsX5_isSomeSet wsX5_isFrom := goodIn_r _ [11] (by decide +kernel) (by decide +kernel)
set_option maxRecDepth 20000 in
theorem gX5_isSomeSet_X5_isFrom : GoodIn wsX5_isSomeSet (va_wsS RX5 96 yX5_isFrom wsX5_isFrom) := goodIn_app (goodIn_of _ (by decide +kernel)) ggX5_isSomeSet_X5_isFrom
theorem dX5_isSomeSet_0 : decode cX5_isSomeSet 0 = .ok (.iload_n 1, 1) := by decide +kernel
theorem dX5_isSomeSet_1 : decode cX5_isSomeSet 1 = .ok (.iconst 1, 1) := by decide +kernel
theorem dX5_isSomeSet_2 : decode cX5_isSomeSet 2 = .ok (.aload_n 0, 1) := by decide +kernel
theorem dX5_isSomeSet_3 : decode cX5_isSomeSet 3 = .ok (.getfield 27, 3) := by decide +kernel
theorem dX5_isSomeSet_6 : decode cX5_isSomeSet 6 = .ok (.invokevirtual 184, 3) := by decide +kernel
theorem dX5_isSomeSet_9 : decode cX5_isSomeSet 9 = .ok (.invokestatic 96, 3) := by decide +kernel
theorem dX5_isSomeSet_12 : decode cX5_isSomeSet 12 = .ok (.ireturn, 1) := by decide +kernel
set_option maxRecDepth 20000 in
theorem ggX5_explainsAll_X5_isIn : GoodIn wsX5_explainsAll wsX5_isIn := goodIn_r _ [11] (by decide +kernel) (by decide +kernel)
set_option maxRecDepth 20000 in
theorem gX5_explainsAll_X5_isIn : GoodIn wsX5_explainsAll (va_wsS RX5 250 yX5_isIn wsX5_isIn) := goodIn_app (goodIn_of _ (by decide +kernel)) ggX5_explainsAll_X5_isIn
theorem dX5_explainsAll_0 : decode cX5_explainsAll 0 = .ok (.iconst 0, 1) := by decide +kernel
theorem dX5_explainsAll_1 : decode cX5_explainsAll 1 = .ok (.istore_n 3, 1) := by decide +kernel
theorem dX5_explainsAll_2 : decode cX5_explainsAll 2 = .ok (.iload_n 3, 1) := by decide +kernel
theorem dX5_explainsAll_3 : decode cX5_explainsAll 3 = .ok (.aload_n 0, 1) := by decide +kernel
theorem dX5_explainsAll_4 : decode cX5_explainsAll 4 = .ok (.getfield 59, 3) := by decide +kernel
theorem dX5_explainsAll_7 : decode cX5_explainsAll 7 = .ok (.if_icmp .ge 92, 3) := by decide +kernel
theorem dX5_explainsAll_10 : decode cX5_explainsAll 10 = .ok (.aload_n 0, 1) := by decide +kernel
theorem dX5_explainsAll_11 : decode cX5_explainsAll 11 = .ok (.getfield 53, 3) := by decide +kernel
theorem dX5_explainsAll_14 : decode cX5_explainsAll 14 = .ok (.iload_n 3, 1) := by decide +kernel
theorem dX5_explainsAll_15 : decode cX5_explainsAll 15 = .ok (.iaload, 1) := by decide +kernel
theorem dX5_explainsAll_16 : decode cX5_explainsAll 16 = .ok (.istore 4, 2) := by decide +kernel
theorem dX5_explainsAll_18 : decode cX5_explainsAll 18 = .ok (.iload 4, 2) := by decide +kernel
theorem dX5_explainsAll_20 : decode cX5_explainsAll 20 = .ok (.iload_n 1, 1) := by decide +kernel
theorem dX5_explainsAll_21 : decode cX5_explainsAll 21 = .ok (.invokestatic 250, 3) := by decide +kernel
theorem dX5_explainsAll_24 : decode cX5_explainsAll 24 = .ok (.ifCond .eq 7, 3) := by decide +kernel
theorem dX5_explainsAll_27 : decode cX5_explainsAll 27 = .ok (.iload_n 2, 1) := by decide +kernel
theorem dX5_explainsAll_28 : decode cX5_explainsAll 28 = .ok (.goto 4, 3) := by decide +kernel
theorem dX5_explainsAll_31 : decode cX5_explainsAll 31 = .ok (.iconst 0, 1) := by decide +kernel
theorem dX5_explainsAll_32 : decode cX5_explainsAll 32 = .ok (.istore 5, 2) := by decide +kernel
theorem dX5_explainsAll_34 : decode cX5_explainsAll 34 = .ok (.iconst 0, 1) := by decide +kernel
theorem dX5_explainsAll_35 : decode cX5_explainsAll 35 = .ok (.istore 6, 2) := by decide +kernel
theorem dX5_explainsAll_37 : decode cX5_explainsAll 37 = .ok (.iload 6, 2) := by decide +kernel
theorem dX5_explainsAll_39 : decode cX5_explainsAll 39 = .ok (.aload_n 0, 1) := by decide +kernel
theorem dX5_explainsAll_40 : decode cX5_explainsAll 40 = .ok (.getfield 27, 3) := by decide +kernel
theorem dX5_explainsAll_43 : decode cX5_explainsAll 43 = .ok (.getfield 159, 3) := by decide +kernel
theorem dX5_explainsAll_46 : decode cX5_explainsAll 46 = .ok (.if_icmp .ge 34, 3) := by decide +kernel
theorem dX5_explainsAll_49 : decode cX5_explainsAll 49 = .ok (.iload 4, 2) := by decide +kernel
theorem dX5_explainsAll_51 : decode cX5_explainsAll 51 = .ok (.iload 6, 2) := by decide +kernel
theorem dX5_explainsAll_53 : decode cX5_explainsAll 53 = .ok (.invokestatic 250, 3) := by decide +kernel
theorem dX5_explainsAll_56 : decode cX5_explainsAll 56 = .ok (.ifCond .eq 18, 3) := by decide +kernel
theorem dX5_explainsAll_59 : decode cX5_explainsAll 59 = .ok (.iload 5, 2) := by decide +kernel
theorem dX5_explainsAll_61 : decode cX5_explainsAll 61 = .ok (.aload_n 0, 1) := by decide +kernel
theorem dX5_explainsAll_62 : decode cX5_explainsAll 62 = .ok (.getfield 37, 3) := by decide +kernel
theorem dX5_explainsAll_65 : decode cX5_explainsAll 65 = .ok (.getfield 126, 3) := by decide +kernel
theorem dX5_explainsAll_68 : decode cX5_explainsAll 68 = .ok (.iload 6, 2) := by decide +kernel
theorem dX5_explainsAll_70 : decode cX5_explainsAll 70 = .ok (.iaload, 1) := by decide +kernel
theorem dX5_explainsAll_71 : decode cX5_explainsAll 71 = .ok (.iadd, 1) := by decide +kernel
theorem dX5_explainsAll_72 : decode cX5_explainsAll 72 = .ok (.istore 5, 2) := by decide +kernel
theorem dX5_explainsAll_74 : decode cX5_explainsAll 74 = .ok (.iinc 6 1, 3) := by decide +kernel
theorem dX5_explainsAll_77 : decode cX5_explainsAll 77 = .ok (.goto (-40), 3) := by decide +kernel
theorem dX5_explainsAll_80 : decode cX5_explainsAll 80 = .ok (.iload 5, 2) := by decide +kernel
theorem dX5_explainsAll_82 : decode cX5_explainsAll 82 = .ok (.aload_n 0, 1) := by decide +kernel
theorem dX5_explainsAll_83 : decode cX5_explainsAll 83 = .ok (.getfield 56, 3) := by decide +kernel
theorem dX5_explainsAll_86 : decode cX5_explainsAll 86 = .ok (.iload_n 3, 1) := by decide +kernel
theorem dX5_explainsAll_87 : decode cX5_explainsAll 87 = .ok (.iaload, 1) := by decide +kernel
theorem dX5_explainsAll_88 : decode cX5_explainsAll 88 = .ok (.if_icmp .eq 5, 3) := by decide +kernel
theorem dX5_explainsAll_91 : decode cX5_explainsAll 91 = .ok (.iconst 0, 1) := by decide +kernel
theorem dX5_explainsAll_92 : decode cX5_explainsAll 92 = .ok (.ireturn, 1) := by decide +kernel
theorem dX5_explainsAll_93 : decode cX5_explainsAll 93 = .ok (.iinc 3 1, 3) := by decide +kernel
theorem dX5_explainsAll_96 : decode cX5_explainsAll 96 = .ok (.goto (-94), 3) := by decide +kernel
theorem dX5_explainsAll_99 : decode cX5_explainsAll 99 = .ok (.iconst 1, 1) := by decide +kernel
theorem dX5_explainsAll_100 : decode cX5_explainsAll 100 = .ok (.ireturn, 1) := by decide +kernel
