theorem dX8_manyNow_23 : decode cX8_manyNow 23 = .ok (.aload_n 0, 1) := by decide +kernel
theorem dX8_manyNow_24 : decode cX8_manyNow 24 = .ok (.getfield 16, 3) := by decide +kernel
theorem dX8_manyNow_27 : decode cX8_manyNow 27 = .ok (.iload 5, 2) := by decide +kernel
theorem dX8_manyNow_29 : decode cX8_manyNow 29 = .ok (.iaload, 1) := by decide +kernel
theorem dX8_manyNow_30 : decode cX8_manyNow 30 = .ok (.ifCond .ne 7, 3) := by decide +kernel
theorem dX8_manyNow_33 : decode cX8_manyNow 33 = .ok (.iconst 0, 1) := by decide +kernel
theorem dX8_manyNow_34 : decode cX8_manyNow 34 = .ok (.goto 4, 3) := by decide +kernel
theorem dX8_manyNow_37 : decode cX8_manyNow 37 = .ok (.iconst 1, 1) := by decide +kernel
theorem dX8_manyNow_38 : decode cX8_manyNow 38 = .ok (.iadd, 1) := by decide +kernel
theorem dX8_manyNow_39 : decode cX8_manyNow 39 = .ok (.istore_n 2, 1) := by decide +kernel
theorem dX8_manyNow_40 : decode cX8_manyNow 40 = .ok (.iinc 5 1, 3) := by decide +kernel
theorem dX8_manyNow_43 : decode cX8_manyNow 43 = .ok (.goto (-30), 3) := by decide +kernel
theorem dX8_manyNow_46 : decode cX8_manyNow 46 = .ok (.aload_n 0, 1) := by decide +kernel
theorem dX8_manyNow_47 : decode cX8_manyNow 47 = .ok (.aload_n 0, 1) := by decide +kernel
theorem dX8_manyNow_48 : decode cX8_manyNow 48 = .ok (.getfield 60, 3) := by decide +kernel
theorem dX8_manyNow_51 : decode cX8_manyNow 51 = .ok (.invokevirtual 76, 3) := by decide +kernel
theorem dX8_manyNow_54 : decode cX8_manyNow 54 = .ok (.istore 5, 2) := by decide +kernel
theorem dX8_manyNow_56 : decode cX8_manyNow 56 = .ok (.iload 5, 2) := by decide +kernel
theorem dX8_manyNow_58 : decode cX8_manyNow 58 = .ok (.iconst (-1), 1) := by decide +kernel
theorem dX8_manyNow_59 : decode cX8_manyNow 59 = .ok (.if_icmp .eq 31, 3) := by decide +kernel
theorem dX8_manyNow_62 : decode cX8_manyNow 62 = .ok (.iinc 3 1, 3) := by decide +kernel
theorem dX8_manyNow_65 : decode cX8_manyNow 65 = .ok (.aload_n 0, 1) := by decide +kernel
theorem dX8_manyNow_66 : decode cX8_manyNow 66 = .ok (.getfield 9, 3) := by decide +kernel
theorem dX8_manyNow_69 : decode cX8_manyNow 69 = .ok (.iload 5, 2) := by decide +kernel
theorem dX8_manyNow_71 : decode cX8_manyNow 71 = .ok (.iaload, 1) := by decide +kernel
theorem dX8_manyNow_72 : decode cX8_manyNow 72 = .ok (.istore 4, 2) := by decide +kernel
theorem dX8_manyNow_74 : decode cX8_manyNow 74 = .ok (.aload_n 0, 1) := by decide +kernel
theorem dX8_manyNow_75 : decode cX8_manyNow 75 = .ok (.aload_n 0, 1) := by decide +kernel
theorem dX8_manyNow_76 : decode cX8_manyNow 76 = .ok (.getfield 9, 3) := by decide +kernel
theorem dX8_manyNow_79 : decode cX8_manyNow 79 = .ok (.iload 5, 2) := by decide +kernel
theorem dX8_manyNow_81 : decode cX8_manyNow 81 = .ok (.iaload, 1) := by decide +kernel
theorem dX8_manyNow_82 : decode cX8_manyNow 82 = .ok (.invokevirtual 76, 3) := by decide +kernel
theorem dX8_manyNow_85 : decode cX8_manyNow 85 = .ok (.istore 5, 2) := by decide +kernel
theorem dX8_manyNow_87 : decode cX8_manyNow 87 = .ok (.goto (-31), 3) := by decide +kernel
theorem dX8_manyNow_90 : decode cX8_manyNow 90 = .ok (.iload_n 1, 1) := by decide +kernel
theorem dX8_manyNow_91 : decode cX8_manyNow 91 = .ok (.tableswitch 87 0 8 #[49, 54, 56, 58, 63, 68, 73, 79, 84], 49) := by decide +kernel
theorem dX8_manyNow_140 : decode cX8_manyNow 140 = .ok (.aload_n 0, 1) := by decide +kernel
theorem dX8_manyNow_141 : decode cX8_manyNow 141 = .ok (.getfield 32, 3) := by decide +kernel
theorem dX8_manyNow_144 : decode cX8_manyNow 144 = .ok (.ireturn, 1) := by decide +kernel
theorem dX8_manyNow_145 : decode cX8_manyNow 145 = .ok (.iload_n 2, 1) := by decide +kernel
theorem dX8_manyNow_146 : decode cX8_manyNow 146 = .ok (.ireturn, 1) := by decide +kernel
theorem dX8_manyNow_147 : decode cX8_manyNow 147 = .ok (.iload_n 3, 1) := by decide +kernel
theorem dX8_manyNow_148 : decode cX8_manyNow 148 = .ok (.ireturn, 1) := by decide +kernel
theorem dX8_manyNow_149 : decode cX8_manyNow 149 = .ok (.aload_n 0, 1) := by decide +kernel
theorem dX8_manyNow_150 : decode cX8_manyNow 150 = .ok (.getfield 60, 3) := by decide +kernel
theorem dX8_manyNow_153 : decode cX8_manyNow 153 = .ok (.ireturn, 1) := by decide +kernel
theorem dX8_manyNow_154 : decode cX8_manyNow 154 = .ok (.aload_n 0, 1) := by decide +kernel
theorem dX8_manyNow_155 : decode cX8_manyNow 155 = .ok (.getfield 22, 3) := by decide +kernel
theorem dX8_manyNow_158 : decode cX8_manyNow 158 = .ok (.ireturn, 1) := by decide +kernel
theorem dX8_manyNow_159 : decode cX8_manyNow 159 = .ok (.aload_n 0, 1) := by decide +kernel
theorem dX8_manyNow_160 : decode cX8_manyNow 160 = .ok (.invokevirtual 135, 3) := by decide +kernel
theorem dX8_manyNow_163 : decode cX8_manyNow 163 = .ok (.ireturn, 1) := by decide +kernel
theorem dX8_manyNow_164 : decode cX8_manyNow 164 = .ok (.aload_n 0, 1) := by decide +kernel
theorem dX8_manyNow_165 : decode cX8_manyNow 165 = .ok (.iconst (-1), 1) := by decide +kernel
theorem dX8_manyNow_166 : decode cX8_manyNow 166 = .ok (.invokevirtual 139, 3) := by decide +kernel
theorem dX8_manyNow_169 : decode cX8_manyNow 169 = .ok (.ireturn, 1) := by decide +kernel
theorem dX8_manyNow_170 : decode cX8_manyNow 170 = .ok (.aload_n 0, 1) := by decide +kernel
theorem dX8_manyNow_171 : decode cX8_manyNow 171 = .ok (.getfield 63, 3) := by decide +kernel
theorem dX8_manyNow_174 : decode cX8_manyNow 174 = .ok (.ireturn, 1) := by decide +kernel
theorem dX8_manyNow_175 : decode cX8_manyNow 175 = .ok (.iload 4, 2) := by decide +kernel
theorem dX8_manyNow_177 : decode cX8_manyNow 177 = .ok (.ireturn, 1) := by decide +kernel
theorem dX8_manyNow_178 : decode cX8_manyNow 178 = .ok (.aload_n 0, 1) := by decide +kernel
theorem dX8_manyNow_179 : decode cX8_manyNow 179 = .ok (.getfield 26, 3) := by decide +kernel
theorem dX8_manyNow_182 : decode cX8_manyNow 182 = .ok (.ireturn, 1) := by decide +kernel
set_option maxRecDepth 20000 in
theorem ggX8_many_X8_is : GoodIn wsX8_many wsX8_is := goodIn_r _ [5] rfl (by decide +kernel)
set_option maxRecDepth 20000 in
theorem gX8_many_X8_is : GoodIn wsX8_many (va_wsS RX8 48 yX8_is wsX8_is) := goodIn_app (goodIn_of _ (by decide +kernel)) ggX8_many_X8_is
set_option maxRecDepth 20000 in
theorem ggX8_many_X8_manyNow : GoodIn wsX8_many wsX8_manyNow := goodIn_r _ [9, 10, 11, 12, 13, 14, 15, 16, 17, 18, 19, 4, 20, 21, 22, 23, 24, 25, 26, 27, 28, 29, 30, 31, 32, 33, 34, 35, 36, 37, 38, 39, 40, 41, 42, 43, 44, 45, 46, 47, 48, 49, 50, 51, 52, 53, 54, 55, 56, 57, 58, 59, 64, 65, 66, 67, 68, 69, 70, 71, 72, 73, 74, 75, 76, 77] rfl (by decide +kernel)
set_option maxRecDepth 20000 in
theorem gX8_many_X8_manyNow : GoodIn wsX8_many (wsV RX8 142 RX8 yX8_manyNow wsX8_manyNow) := goodIn_app (goodIn_of _ (by decide +kernel)) ggX8_many_X8_manyNow
set_option maxRecDepth 20000 in
theorem ggX8_many_X8_refuse : GoodIn wsX8_many wsX8_refuse := goodIn_r _ [63, 1, 64, 65, 66, 67, 68, 69, 70, 71, 72, 73, 74, 75, 76, 77] rfl (by decide +kernel)
set_option maxRecDepth 20000 in
theorem gX8_many_X8_refuse : GoodIn wsX8_many (wsV RX8 45 RX8 yX8_refuse wsX8_refuse) := goodIn_app (goodIn_of _ (by decide +kernel)) ggX8_many_X8_refuse
theorem dX8_many_0 : decode cX8_many 0 = .ok (.aload_n 0, 1) := by decide +kernel
theorem dX8_many_1 : decode cX8_many 1 = .ok (.iconst 0, 1) := by decide +kernel
theorem dX8_many_2 : decode cX8_many 2 = .ok (.putfield 29, 3) := by decide +kernel
theorem dX8_many_5 : decode cX8_many 5 = .ok (.iload_n 1, 1) := by decide +kernel
theorem dX8_many_6 : decode cX8_many 6 = .ok (.iconst 0, 1) := by decide +kernel
theorem dX8_many_7 : decode cX8_many 7 = .ok (.bipush 9, 2) := by decide +kernel
theorem dX8_many_9 : decode cX8_many 9 = .ok (.invokestatic 48, 3) := by decide +kernel
theorem dX8_many_12 : decode cX8_many 12 = .ok (.ifCond .eq 11, 3) := by decide +kernel
theorem dX8_many_15 : decode cX8_many 15 = .ok (.aload_n 0, 1) := by decide +kernel
theorem dX8_many_16 : decode cX8_many 16 = .ok (.iload_n 1, 1) := by decide +kernel
theorem dX8_many_17 : decode cX8_many 17 = .ok (.invokevirtual 142, 3) := by decide +kernel
theorem dX8_many_20 : decode cX8_many 20 = .ok (.goto 8, 3) := by decide +kernel
theorem dX8_many_23 : decode cX8_many 23 = .ok (.aload_n 0, 1) := by decide +kernel
theorem dX8_many_24 : decode cX8_many 24 = .ok (.iconst 1, 1) := by decide +kernel
theorem dX8_many_25 : decode cX8_many 25 = .ok (.invokevirtual 45, 3) := by decide +kernel
theorem dX8_many_28 : decode cX8_many 28 = .ok (.ireturn, 1) := by decide +kernel
set_option maxRecDepth 20000 in
theorem ggX8_through_X8_isPiece : GoodIn wsX8_through wsX8_isPiece := goodIn_r _ [6, 7, 8, 9, 5, 10, 62, 63, 64, 65, 66, 67, 68, 69, 70, 71, 72, 73, 74, 75] rfl (by decide +kernel)
set_option maxRecDepth 20000 in
theorem gX8_through_X8_isPiece : GoodIn wsX8_through (wsV RX8 56 RX8 yX8_isPiece wsX8_isPiece) := goodIn_app (goodIn_of _ (by decide +kernel)) ggX8_through_X8_isPiece
set_option maxRecDepth 20000 in
theorem ggX8_through_X8_throughNow : GoodIn wsX8_through wsX8_throughNow := goodIn_r _ [14, 15, 16, 17, 18, 19, 20, 21, 22, 5, 23, 24, 25, 26, 27, 28, 7, 29, 30, 31, 32, 33, 34, 35, 36, 37, 38, 39, 40, 41, 42, 43, 44, 45, 46, 47, 48, 49, 50, 51, 52, 53, 54, 55, 56, 57, 62, 63, 64, 65, 66, 67, 68, 69, 70, 71, 72, 73, 74, 75] rfl (by decide +kernel)
set_option maxRecDepth 20000 in
theorem gX8_through_X8_throughNow : GoodIn wsX8_through (wsV RX8 145 RX8 yX8_throughNow wsX8_throughNow) := goodIn_app (goodIn_of _ (by decide +kernel)) ggX8_through_X8_throughNow
set_option maxRecDepth 20000 in
theorem ggX8_through_X8_refuse : GoodIn wsX8_through wsX8_refuse := goodIn_r _ [61, 1, 62, 63, 64, 65, 66, 67, 68, 69, 70, 71, 72, 73, 74, 75] rfl (by decide +kernel)
set_option maxRecDepth 20000 in
theorem gX8_through_X8_refuse : GoodIn wsX8_through (wsV RX8 45 RX8 yX8_refuse wsX8_refuse) := goodIn_app (goodIn_of _ (by decide +kernel)) ggX8_through_X8_refuse
theorem dX8_through_0 : decode cX8_through 0 = .ok (.aload_n 0, 1) := by decide +kernel
theorem dX8_through_1 : decode cX8_through 1 = .ok (.iconst 0, 1) := by decide +kernel
theorem dX8_through_2 : decode cX8_through 2 = .ok (.putfield 29, 3) := by decide +kernel
theorem dX8_through_5 : decode cX8_through 5 = .ok (.aload_n 0, 1) := by decide +kernel
theorem dX8_through_6 : decode cX8_through 6 = .ok (.iload_n 1, 1) := by decide +kernel
theorem dX8_through_7 : decode cX8_through 7 = .ok (.invokevirtual 56, 3) := by decide +kernel
theorem dX8_through_10 : decode cX8_through 10 = .ok (.ifCond .eq 11, 3) := by decide +kernel
theorem dX8_through_13 : decode cX8_through 13 = .ok (.aload_n 0, 1) := by decide +kernel
theorem dX8_through_14 : decode cX8_through 14 = .ok (.iload_n 1, 1) := by decide +kernel
theorem dX8_through_15 : decode cX8_through 15 = .ok (.invokevirtual 145, 3) := by decide +kernel
theorem dX8_through_18 : decode cX8_through 18 = .ok (.goto 8, 3) := by decide +kernel
theorem dX8_through_21 : decode cX8_through 21 = .ok (.aload_n 0, 1) := by decide +kernel
theorem dX8_through_22 : decode cX8_through 22 = .ok (.iconst 1, 1) := by decide +kernel
theorem dX8_through_23 : decode cX8_through 23 = .ok (.invokevirtual 45, 3) := by decide +kernel
theorem dX8_through_26 : decode cX8_through 26 = .ok (.ireturn, 1) := by decide +kernel
set_option maxRecDepth 20000 in
theorem ggX8_rail_J4_init_a7421 : GoodIn wsX8_rail wsJ4_init_a7421 := goodIn_r _ [10, 11, 12, 13, 14, 15, 16, 17, 18, 19, 20, 21, 22, 23, 24, 25, 26, 27, 28, 29, 30, 31, 32, 33, 34, 35, 36, 37, 38, 39, 40, 41, 42, 43, 44, 45, 46, 47, 48, 4, 49, 50, 51, 52, 53, 54, 55, 56, 57, 58, 59, 60, 61, 62, 63, 64, 65, 66, 67, 68, 69, 70, 71, 72, 73, 74, 75, 76, 77, 78, 79, 80, 81, 82, 83, 84, 85, 86, 87, 88, 89, 90, 91, 92, 93, 94, 95, 96, 97, 98, 99, 100, 101, 102, 103, 104, 105, 106, 107, 108, 109, 110, 111, 112, 113, 114, 115, 116, 117, 118, 119, 120, 121, 122, 123, 124, 125, 126, 127, 128, 129, 130, 131, 132, 133, 134, 135, 136, 137, 138, 139, 140, 141, 142, 143, 144, 145, 146, 147, 148, 149, 150, 151, 152, 153, 154, 155, 156, 157, 158, 159, 160, 161, 162, 163, 164, 165, 166, 167, 168, 265, 266, 267, 268, 269, 270, 271, 272] rfl (by decide +kernel)
set_option maxRecDepth 20000 in
theorem gX8_rail_J4_init_a7421 : GoodIn wsX8_rail (wsJ4_init_a7421) := ggX8_rail_J4_init_a7421
set_option maxRecDepth 20000 in
theorem ggX8_rail_X8_next : GoodIn wsX8_rail wsX8_next := goodIn_r _ [173, 174, 7, 175, 251, 252, 253, 254, 255, 256, 257, 258, 259, 260, 261, 262, 263, 264] rfl (by decide +kernel)
set_option maxRecDepth 20000 in
theorem gX8_rail_X8_next : GoodIn wsX8_rail (wsV RX8 76 RX8 yX8_next wsX8_next) := goodIn_app (goodIn_of _ (by decide +kernel)) ggX8_rail_X8_next
set_option maxRecDepth 20000 in
theorem ggX8_rail_J4_append_cf468 : GoodIn wsX8_rail wsJ4_append_cf468 := goodIn_r _ [179, 180, 181, 55, 182, 13, 183, 58, 22, 64, 65, 66, 67, 68, 20, 69, 70, 71, 72, 73, 19, 74, 75, 76, 77, 78, 79, 80, 81, 82, 83, 84, 85, 86, 87, 88, 89, 90, 91, 92, 93, 94, 95, 21, 96, 97, 98, 99, 100, 101, 102, 103, 104, 105, 106, 107, 108, 184, 185, 149, 186, 142, 143, 144, 145, 146, 36, 37, 38, 39, 40, 41, 42, 43, 147, 148, 150, 151, 152, 153, 154, 155, 156, 116, 117, 118, 157, 158, 26, 159, 122, 160, 161, 125, 162, 127, 128, 129, 112, 130, 131, 187, 188, 189, 190, 191, 192, 193, 194, 195, 196, 197, 198, 265, 266, 267, 268] rfl (by decide +kernel)
set_option maxRecDepth 20000 in
theorem gX8_rail_J4_append_cf468 : GoodIn wsX8_rail (wsV RX8 155 RJ4 yJ4_append_cf468 wsJ4_append_cf468) := goodIn_app (goodIn_of _ (by decide +kernel)) ggX8_rail_J4_append_cf468
set_option maxRecDepth 20000 in
theorem ggX8_rail_J4_toString_0e30d : GoodIn wsX8_rail wsJ4_toString_0e30d := goodIn_r _ [202, 203, 204, 26, 205, 206, 207, 208, 209, 210, 211, 16, 17, 34, 28, 33, 212, 213, 214, 215, 216, 13, 217, 22, 218, 219, 220, 221, 222, 4, 223, 224, 55, 225, 226, 58, 227, 104, 105, 106, 107, 108, 20, 228, 229, 88, 230, 90, 91, 92, 93, 94, 95, 231, 232, 233, 21, 96, 97, 80, 98, 99, 100, 101, 102, 234, 235, 236, 237, 3, 238, 239, 38, 240, 241, 242, 243, 154, 155, 156, 116, 117, 118, 157, 158, 159, 122, 160, 161, 125, 162, 244, 245, 246, 112, 130, 131, 40, 41, 42, 43, 247, 248, 249, 250, 269, 270, 271, 272, 265, 266, 267, 268] rfl (by decide +kernel)
set_option maxRecDepth 20000 in
theorem gX8_rail_J4_toString_0e30d : GoodIn wsX8_rail (wsV RX8 159 RJ4 yJ4_toString_0e30d wsJ4_toString_0e30d) := goodIn_app (goodIn_of _ (by decide +kernel)) ggX8_rail_J4_toString_0e30d
theorem dX8_rail_0 : decode cX8_rail 0 = .ok (.aload_n 0, 1) := by decide +kernel
theorem dX8_rail_1 : decode cX8_rail 1 = .ok (.iconst 0, 1) := by decide +kernel
theorem dX8_rail_2 : decode cX8_rail 2 = .ok (.putfield 29, 3) := by decide +kernel
theorem dX8_rail_5 : decode cX8_rail 5 = .ok (.new 148, 3) := by decide +kernel
theorem dX8_rail_8 : decode cX8_rail 8 = .ok (.dup, 1) := by decide +kernel
theorem dX8_rail_9 : decode cX8_rail 9 = .ok (.ldc 150, 2) := by decide +kernel
theorem dX8_rail_11 : decode cX8_rail 11 = .ok (.invokespecial 152, 3) := by decide +kernel
theorem dX8_rail_14 : decode cX8_rail 14 = .ok (.astore_n 1, 1) := by decide +kernel
theorem dX8_rail_15 : decode cX8_rail 15 = .ok (.aload_n 0, 1) := by decide +kernel
theorem dX8_rail_16 : decode cX8_rail 16 = .ok (.aload_n 0, 1) := by decide +kernel
theorem dX8_rail_17 : decode cX8_rail 17 = .ok (.getfield 60, 3) := by decide +kernel
theorem dX8_rail_20 : decode cX8_rail 20 = .ok (.invokevirtual 76, 3) := by decide +kernel
theorem dX8_rail_23 : decode cX8_rail 23 = .ok (.istore_n 2, 1) := by decide +kernel
theorem dX8_rail_24 : decode cX8_rail 24 = .ok (.iload_n 2, 1) := by decide +kernel
theorem dX8_rail_25 : decode cX8_rail 25 = .ok (.iconst (-1), 1) := by decide +kernel
theorem dX8_rail_26 : decode cX8_rail 26 = .ok (.if_icmp .eq 52, 3) := by decide +kernel
theorem dX8_rail_29 : decode cX8_rail 29 = .ok (.aload_n 1, 1) := by decide +kernel
theorem dX8_rail_30 : decode cX8_rail 30 = .ok (.aload_n 0, 1) := by decide +kernel
theorem dX8_rail_31 : decode cX8_rail 31 = .ok (.getfield 16, 3) := by decide +kernel
theorem dX8_rail_34 : decode cX8_rail 34 = .ok (.iload_n 2, 1) := by decide +kernel
theorem dX8_rail_35 : decode cX8_rail 35 = .ok (.iaload, 1) := by decide +kernel
theorem dX8_rail_36 : decode cX8_rail 36 = .ok (.ifCond .ne 8, 3) := by decide +kernel
theorem dX8_rail_39 : decode cX8_rail 39 = .ok (.bipush 124, 2) := by decide +kernel
theorem dX8_rail_41 : decode cX8_rail 41 = .ok (.goto 19, 3) := by decide +kernel
theorem dX8_rail_44 : decode cX8_rail 44 = .ok (.aload_n 0, 1) := by decide +kernel
theorem dX8_rail_45 : decode cX8_rail 45 = .ok (.getfield 16, 3) := by decide +kernel
theorem dX8_rail_48 : decode cX8_rail 48 = .ok (.iload_n 2, 1) := by decide +kernel
theorem dX8_rail_49 : decode cX8_rail 49 = .ok (.iaload, 1) := by decide +kernel
theorem dX8_rail_50 : decode cX8_rail 50 = .ok (.ifCond .le 8, 3) := by decide +kernel
theorem dX8_rail_53 : decode cX8_rail 53 = .ok (.bipush 40, 2) := by decide +kernel
theorem dX8_rail_55 : decode cX8_rail 55 = .ok (.goto 5, 3) := by decide +kernel
theorem dX8_rail_58 : decode cX8_rail 58 = .ok (.bipush 41, 2) := by decide +kernel
theorem dX8_rail_60 : decode cX8_rail 60 = .ok (.invokevirtual 155, 3) := by decide +kernel
theorem dX8_rail_63 : decode cX8_rail 63 = .ok (.pop, 1) := by decide +kernel
theorem dX8_rail_64 : decode cX8_rail 64 = .ok (.aload_n 0, 1) := by decide +kernel
theorem dX8_rail_65 : decode cX8_rail 65 = .ok (.aload_n 0, 1) := by decide +kernel
theorem dX8_rail_66 : decode cX8_rail 66 = .ok (.getfield 9, 3) := by decide +kernel
theorem dX8_rail_69 : decode cX8_rail 69 = .ok (.iload_n 2, 1) := by decide +kernel
theorem dX8_rail_70 : decode cX8_rail 70 = .ok (.iaload, 1) := by decide +kernel
theorem dX8_rail_71 : decode cX8_rail 71 = .ok (.invokevirtual 76, 3) := by decide +kernel
theorem dX8_rail_74 : decode cX8_rail 74 = .ok (.istore_n 2, 1) := by decide +kernel
theorem dX8_rail_75 : decode cX8_rail 75 = .ok (.goto (-51), 3) := by decide +kernel
theorem dX8_rail_78 : decode cX8_rail 78 = .ok (.aload_n 1, 1) := by decide +kernel
theorem dX8_rail_79 : decode cX8_rail 79 = .ok (.bipush 35, 2) := by decide +kernel
theorem dX8_rail_81 : decode cX8_rail 81 = .ok (.invokevirtual 155, 3) := by decide +kernel
theorem dX8_rail_84 : decode cX8_rail 84 = .ok (.invokevirtual 159, 3) := by decide +kernel
theorem dX8_rail_87 : decode cX8_rail 87 = .ok (.areturn, 1) := by decide +kernel
set_option maxRecDepth 20000 in
theorem ggX8_graspNow_X8_opening : GoodIn wsX8_graspNow wsX8_opening := goodIn_r _ [6, 7, 1, 8, 9, 10, 11, 12, 13, 14, 5, 15, 16, 17, 18, 19, 20, 21, 22, 23, 24, 25, 26, 27, 28, 29, 30, 31, 32, 33, 34, 35, 36, 37, 41, 42, 43, 44, 45, 46, 47, 48, 49, 50, 51, 52, 53, 54] rfl (by decide +kernel)
set_option maxRecDepth 20000 in
theorem gX8_graspNow_X8_opening : GoodIn wsX8_graspNow (wsV RX8 135 RX8 yX8_opening wsX8_opening) := goodIn_app (goodIn_of _ (by decide +kernel)) ggX8_graspNow_X8_opening
set_option maxRecDepth 20000 in
theorem ggX8_graspNow_X8_plain : GoodIn wsX8_graspNow wsX8_plain := goodIn_r _ [40] rfl (by decide +kernel)
set_option maxRecDepth 20000 in
theorem gX8_graspNow_X8_plain : GoodIn wsX8_graspNow (va_wsS RX8 104 yX8_plain wsX8_plain) := goodIn_app (goodIn_of _ (by decide +kernel)) ggX8_graspNow_X8_plain
theorem dX8_graspNow_0 : decode cX8_graspNow 0 = .ok (.aload_n 0, 1) := by decide +kernel
theorem dX8_graspNow_1 : decode cX8_graspNow 1 = .ok (.invokevirtual 135, 3) := by decide +kernel
theorem dX8_graspNow_4 : decode cX8_graspNow 4 = .ok (.pop, 1) := by decide +kernel
theorem dX8_graspNow_5 : decode cX8_graspNow 5 = .ok (.aload_n 0, 1) := by decide +kernel
theorem dX8_graspNow_6 : decode cX8_graspNow 6 = .ok (.getfield 66, 3) := by decide +kernel
theorem dX8_graspNow_9 : decode cX8_graspNow 9 = .ok (.invokestatic 104, 3) := by decide +kernel
theorem dX8_graspNow_12 : decode cX8_graspNow 12 = .ok (.dreturn, 1) := by decide +kernel
set_option maxRecDepth 20000 in
theorem ggX8_grasp_X8_graspNow : GoodIn wsX8_grasp wsX8_graspNow := goodIn_r _ [6, 7, 8, 9, 10, 5, 11, 12, 13, 14, 15, 16, 17, 18, 19, 20, 21, 22, 23, 24, 25, 26, 27, 28, 29, 30, 31, 32, 33, 34, 35, 36, 37, 38, 39, 40, 41, 42, 43, 44, 45, 46, 47, 48, 49, 50, 51, 52, 53, 54, 55, 56, 57, 58, 59] rfl (by decide +kernel)
set_option maxRecDepth 20000 in
theorem gX8_grasp_X8_graspNow : GoodIn wsX8_grasp (wsV RX8 163 RX8 yX8_graspNow wsX8_graspNow) := goodIn_app (goodIn_of _ (by decide +kernel)) ggX8_grasp_X8_graspNow
theorem dX8_grasp_0 : decode cX8_grasp 0 = .ok (.aload_n 0, 1) := by decide +kernel
theorem dX8_grasp_1 : decode cX8_grasp 1 = .ok (.iconst 0, 1) := by decide +kernel
theorem dX8_grasp_2 : decode cX8_grasp 2 = .ok (.putfield 29, 3) := by decide +kernel
theorem dX8_grasp_5 : decode cX8_grasp 5 = .ok (.aload_n 0, 1) := by decide +kernel
theorem dX8_grasp_6 : decode cX8_grasp 6 = .ok (.invokevirtual 163, 3) := by decide +kernel
theorem dX8_grasp_9 : decode cX8_grasp 9 = .ok (.dreturn, 1) := by decide +kernel
set_option maxRecDepth 20000 in
theorem ggX8_blur_X8_is : GoodIn wsX8_blur wsX8_is := goodIn_r _ [5] rfl (by decide +kernel)
set_option maxRecDepth 20000 in
theorem gX8_blur_X8_is : GoodIn wsX8_blur (va_wsS RX8 48 yX8_is wsX8_is) := goodIn_app (goodIn_of _ (by decide +kernel)) ggX8_blur_X8_is
set_option maxRecDepth 20000 in
theorem ggX8_blur_X8_blurNow : GoodIn wsX8_blur wsX8_blurNow := goodIn_r _ [9, 10, 11, 12, 13, 14, 15, 16, 17, 18, 4, 19, 20, 21, 22, 23, 24, 25, 26, 27, 28, 29, 30, 31, 32, 33, 34, 35, 36, 37, 38, 39, 40, 41, 42, 43, 44, 45, 46, 47, 48, 49, 50, 51, 52, 53, 54, 55, 56, 57, 58, 59, 60, 61, 62, 63, 64, 65, 66, 67, 68, 69, 70, 71, 72, 73, 74] rfl (by decide +kernel)
set_option maxRecDepth 20000 in
theorem gX8_blur_X8_blurNow : GoodIn wsX8_blur (wsV RX8 167 RX8 yX8_blurNow wsX8_blurNow) := goodIn_app (goodIn_of _ (by decide +kernel)) ggX8_blur_X8_blurNow
set_option maxRecDepth 20000 in
theorem ggX8_blur_J9_max_eb370 : GoodIn wsX8_blur wsJ9_max_eb370 := goodIn_r _ [57, 35, 36, 37, 38, 54] rfl (by decide +kernel)
set_option maxRecDepth 20000 in
theorem gX8_blur_J9_max_eb370 : GoodIn wsX8_blur (va_wsS RX8 101 yJ9_max_eb370 wsJ9_max_eb370) := goodIn_app (goodIn_of _ (by decide +kernel)) ggX8_blur_J9_max_eb370
theorem dX8_blur_0 : decode cX8_blur 0 = .ok (.aload_n 0, 1) := by decide +kernel
theorem dX8_blur_1 : decode cX8_blur 1 = .ok (.iload_n 1, 1) := by decide +kernel
theorem dX8_blur_2 : decode cX8_blur 2 = .ok (.iconst 0, 1) := by decide +kernel
theorem dX8_blur_3 : decode cX8_blur 3 = .ok (.iconst 2, 1) := by decide +kernel
theorem dX8_blur_4 : decode cX8_blur 4 = .ok (.invokestatic 48, 3) := by decide +kernel
theorem dX8_blur_7 : decode cX8_blur 7 = .ok (.ifCond .eq 7, 3) := by decide +kernel
theorem dX8_blur_10 : decode cX8_blur 10 = .ok (.iconst 0, 1) := by decide +kernel
theorem dX8_blur_11 : decode cX8_blur 11 = .ok (.goto 4, 3) := by decide +kernel
theorem dX8_blur_14 : decode cX8_blur 14 = .ok (.iconst 1, 1) := by decide +kernel
theorem dX8_blur_15 : decode cX8_blur 15 = .ok (.putfield 29, 3) := by decide +kernel
theorem dX8_blur_18 : decode cX8_blur 18 = .ok (.aload_n 0, 1) := by decide +kernel
theorem dX8_blur_19 : decode cX8_blur 19 = .ok (.getfield 29, 3) := by decide +kernel
theorem dX8_blur_22 : decode cX8_blur 22 = .ok (.ifCond .ne 15, 3) := by decide +kernel
theorem dX8_blur_25 : decode cX8_blur 25 = .ok (.dconst 0, 1) := by decide +kernel
theorem dX8_blur_26 : decode cX8_blur 26 = .ok (.aload_n 0, 1) := by decide +kernel
theorem dX8_blur_27 : decode cX8_blur 27 = .ok (.iload_n 1, 1) := by decide +kernel
theorem dX8_blur_28 : decode cX8_blur 28 = .ok (.invokevirtual 167, 3) := by decide +kernel
theorem dX8_blur_31 : decode cX8_blur 31 = .ok (.invokestatic 101, 3) := by decide +kernel
theorem dX8_blur_34 : decode cX8_blur 34 = .ok (.goto 4, 3) := by decide +kernel
theorem dX8_blur_37 : decode cX8_blur 37 = .ok (.dconst 0, 1) := by decide +kernel
theorem dX8_blur_38 : decode cX8_blur 38 = .ok (.dreturn, 1) := by decide +kernel
set_option maxRecDepth 20000 in
theorem ggX8_apartNow_X8_hasImage : GoodIn wsX8_apartNow wsX8_hasImage := goodIn_r _ [5, 6, 7, 8, 9, 4, 10, 11, 12, 13, 14, 15, 16, 17, 18, 19, 20, 21, 22, 23, 24, 25, 26, 27, 28, 29, 30, 31, 32, 33, 34, 35, 36, 37, 38, 39, 40, 41, 42, 47, 48, 49, 50, 51, 52, 53, 54, 55, 56, 57, 58, 59, 60] rfl (by decide +kernel)
set_option maxRecDepth 20000 in
theorem gX8_apartNow_X8_hasImage : GoodIn wsX8_apartNow (wsV RX8 117 RX8 yX8_hasImage wsX8_hasImage) := goodIn_app (goodIn_of _ (by decide +kernel)) ggX8_apartNow_X8_hasImage
set_option maxRecDepth 20000 in
theorem ggX8_apartNow_X8_back : GoodIn wsX8_apartNow wsX8_back := goodIn_r _ [46, 7, 8, 9, 4, 10, 11, 12, 13, 14, 15, 16, 17, 18, 19, 20, 21, 22, 23, 24, 25, 26, 27, 28, 29, 30, 47, 48, 49, 50, 51, 52, 53, 54, 55, 56, 57, 58, 59, 60] rfl (by decide +kernel)
set_option maxRecDepth 20000 in
theorem gX8_apartNow_X8_back : GoodIn wsX8_apartNow (wsV RX8 120 RX8 yX8_back wsX8_back) := goodIn_app (goodIn_of _ (by decide +kernel)) ggX8_apartNow_X8_back
set_option maxRecDepth 20000 in
theorem ggX8_apartNow_X8_plain : GoodIn wsX8_apartNow wsX8_plain := goodIn_r _ [30] rfl (by decide +kernel)
set_option maxRecDepth 20000 in
theorem gX8_apartNow_X8_plain : GoodIn wsX8_apartNow (va_wsS RX8 104 yX8_plain wsX8_plain) := goodIn_app (goodIn_of _ (by decide +kernel)) ggX8_apartNow_X8_plain
theorem dX8_apartNow_0 : decode cX8_apartNow 0 = .ok (.aload_n 0, 1) := by decide +kernel
theorem dX8_apartNow_1 : decode cX8_apartNow 1 = .ok (.iconst 0, 1) := by decide +kernel
theorem dX8_apartNow_2 : decode cX8_apartNow 2 = .ok (.invokevirtual 117, 3) := by decide +kernel
theorem dX8_apartNow_5 : decode cX8_apartNow 5 = .ok (.ifCond .eq 28, 3) := by decide +kernel
theorem dX8_apartNow_8 : decode cX8_apartNow 8 = .ok (.aload_n 0, 1) := by decide +kernel
theorem dX8_apartNow_9 : decode cX8_apartNow 9 = .ok (.iconst 2, 1) := by decide +kernel
theorem dX8_apartNow_10 : decode cX8_apartNow 10 = .ok (.invokevirtual 117, 3) := by decide +kernel
theorem dX8_apartNow_13 : decode cX8_apartNow 13 = .ok (.ifCond .eq 20, 3) := by decide +kernel
theorem dX8_apartNow_16 : decode cX8_apartNow 16 = .ok (.aload_n 0, 1) := by decide +kernel
theorem dX8_apartNow_17 : decode cX8_apartNow 17 = .ok (.iconst 2, 1) := by decide +kernel
theorem dX8_apartNow_18 : decode cX8_apartNow 18 = .ok (.invokevirtual 120, 3) := by decide +kernel
theorem dX8_apartNow_21 : decode cX8_apartNow 21 = .ok (.aload_n 0, 1) := by decide +kernel
theorem dX8_apartNow_22 : decode cX8_apartNow 22 = .ok (.iconst 0, 1) := by decide +kernel
theorem dX8_apartNow_23 : decode cX8_apartNow 23 = .ok (.invokevirtual 120, 3) := by decide +kernel
theorem dX8_apartNow_26 : decode cX8_apartNow 26 = .ok (.dsub, 1) := by decide +kernel
theorem dX8_apartNow_27 : decode cX8_apartNow 27 = .ok (.invokestatic 104, 3) := by decide +kernel
theorem dX8_apartNow_30 : decode cX8_apartNow 30 = .ok (.goto 4, 3) := by decide +kernel
theorem dX8_apartNow_33 : decode cX8_apartNow 33 = .ok (.dconst 0, 1) := by decide +kernel
theorem dX8_apartNow_34 : decode cX8_apartNow 34 = .ok (.dreturn, 1) := by decide +kernel
set_option maxRecDepth 20000 in
theorem ggX8_apart_X8_apartNow : GoodIn wsX8_apart wsX8_apartNow := goodIn_r _ [6, 7, 8, 9, 5, 10, 11, 12, 13, 14, 15, 16, 17, 18, 19, 20, 21, 22, 23, 24, 25, 26, 27, 28, 29, 30, 31, 32, 33, 34, 35, 36, 37, 38, 39, 40, 41, 42, 43, 44, 45, 46, 47, 48, 49, 50, 51, 52, 53, 54, 55, 56, 57, 58, 59, 60, 61, 62, 63, 64, 65] rfl (by decide +kernel)
set_option maxRecDepth 20000 in
theorem gX8_apart_X8_apartNow : GoodIn wsX8_apart (wsV RX8 170 RX8 yX8_apartNow wsX8_apartNow) := goodIn_app (goodIn_of _ (by decide +kernel)) ggX8_apart_X8_apartNow
theorem dX8_apart_0 : decode cX8_apart 0 = .ok (.aload_n 0, 1) := by decide +kernel
theorem dX8_apart_1 : decode cX8_apart 1 = .ok (.iconst 0, 1) := by decide +kernel
theorem dX8_apart_2 : decode cX8_apart 2 = .ok (.putfield 29, 3) := by decide +kernel
theorem dX8_apart_5 : decode cX8_apart 5 = .ok (.aload_n 0, 1) := by decide +kernel
theorem dX8_apart_6 : decode cX8_apart 6 = .ok (.invokevirtual 170, 3) := by decide +kernel
theorem dX8_apart_9 : decode cX8_apart 9 = .ok (.dreturn, 1) := by decide +kernel
set_option maxRecDepth 20000 in
theorem ggX8_sharpNow_X8_manyNow : GoodIn wsX8_sharpNow wsX8_manyNow := goodIn_r _ [6, 7, 8, 9, 10, 1, 11, 12, 13, 14, 15, 5, 16, 17, 18, 19, 20, 21, 22, 23, 24, 25, 26, 27, 28, 29, 30, 31, 32, 33, 34, 35, 36, 37, 38, 39, 40, 41, 42, 43, 44, 45, 46, 47, 48, 49, 50, 51, 52, 53, 54, 55, 71, 72, 73, 74, 75, 76, 77, 78, 79, 80, 81, 82, 83, 84] rfl (by decide +kernel)
set_option maxRecDepth 20000 in
theorem gX8_sharpNow_X8_manyNow : GoodIn wsX8_sharpNow (wsV RX8 142 RX8 yX8_manyNow wsX8_manyNow) := goodIn_app (goodIn_of _ (by decide +kernel)) ggX8_sharpNow_X8_manyNow
set_option maxRecDepth 20000 in
theorem ggX8_sharpNow_X8_blurNow : GoodIn wsX8_sharpNow wsX8_blurNow := goodIn_r _ [59, 12, 48, 49, 50, 21, 60, 51, 52, 53, 5, 54, 55, 7, 10, 22, 9, 1, 13, 14, 15, 16, 8, 24, 25, 26, 27, 28, 29, 30, 31, 32, 33, 34, 35, 36, 37, 38, 39, 40, 41, 42, 43, 61, 62, 63, 64, 65, 66, 67, 68, 69, 70, 71, 72, 73, 74, 75, 76, 77, 78, 79, 80, 81, 82, 83, 84] rfl (by decide +kernel)
set_option maxRecDepth 20000 in
theorem gX8_sharpNow_X8_blurNow : GoodIn wsX8_sharpNow (wsV RX8 167 RX8 yX8_blurNow wsX8_blurNow) := goodIn_app (goodIn_of _ (by decide +kernel)) ggX8_sharpNow_X8_blurNow
theorem dX8_sharpNow_0 : decode cX8_sharpNow 0 = .ok (.aload_n 0, 1) := by decide +kernel
theorem dX8_sharpNow_1 : decode cX8_sharpNow 1 = .ok (.getfield 22, 3) := by decide +kernel
theorem dX8_sharpNow_4 : decode cX8_sharpNow 4 = .ok (.istore_n 2, 1) := by decide +kernel
theorem dX8_sharpNow_5 : decode cX8_sharpNow 5 = .ok (.iconst (-1), 1) := by decide +kernel
theorem dX8_sharpNow_6 : decode cX8_sharpNow 6 = .ok (.istore_n 3, 1) := by decide +kernel
theorem dX8_sharpNow_7 : decode cX8_sharpNow 7 = .ok (.dconst 0, 1) := by decide +kernel
theorem dX8_sharpNow_8 : decode cX8_sharpNow 8 = .ok (.dstore 4, 2) := by decide +kernel
theorem dX8_sharpNow_10 : decode cX8_sharpNow 10 = .ok (.aload_n 0, 1) := by decide +kernel
theorem dX8_sharpNow_11 : decode cX8_sharpNow 11 = .ok (.bipush 8, 2) := by decide +kernel
theorem dX8_sharpNow_13 : decode cX8_sharpNow 13 = .ok (.invokevirtual 142, 3) := by decide +kernel
theorem dX8_sharpNow_16 : decode cX8_sharpNow 16 = .ok (.iconst 1, 1) := by decide +kernel
theorem dX8_sharpNow_17 : decode cX8_sharpNow 17 = .ok (.iadd, 1) := by decide +kernel
theorem dX8_sharpNow_18 : decode cX8_sharpNow 18 = .ok (.istore 6, 2) := by decide +kernel
theorem dX8_sharpNow_20 : decode cX8_sharpNow 20 = .ok (.iload 6, 2) := by decide +kernel
theorem dX8_sharpNow_22 : decode cX8_sharpNow 22 = .ok (.bipush 100, 2) := by decide +kernel
theorem dX8_sharpNow_24 : decode cX8_sharpNow 24 = .ok (.if_icmp .ge 52, 3) := by decide +kernel
theorem dX8_sharpNow_27 : decode cX8_sharpNow 27 = .ok (.aload_n 0, 1) := by decide +kernel
theorem dX8_sharpNow_28 : decode cX8_sharpNow 28 = .ok (.iload 6, 2) := by decide +kernel
theorem dX8_sharpNow_30 : decode cX8_sharpNow 30 = .ok (.putfield 22, 3) := by decide +kernel
theorem dX8_sharpNow_33 : decode cX8_sharpNow 33 = .ok (.aload_n 0, 1) := by decide +kernel
theorem dX8_sharpNow_34 : decode cX8_sharpNow 34 = .ok (.iload_n 1, 1) := by decide +kernel
theorem dX8_sharpNow_35 : decode cX8_sharpNow 35 = .ok (.invokevirtual 167, 3) := by decide +kernel
theorem dX8_sharpNow_38 : decode cX8_sharpNow 38 = .ok (.dstore 7, 2) := by decide +kernel
theorem dX8_sharpNow_40 : decode cX8_sharpNow 40 = .ok (.dload 7, 2) := by decide +kernel
theorem dX8_sharpNow_42 : decode cX8_sharpNow 42 = .ok (.dconst 0, 1) := by decide +kernel
theorem dX8_sharpNow_43 : decode cX8_sharpNow 43 = .ok (.dcmp .g, 1) := by decide +kernel
theorem dX8_sharpNow_44 : decode cX8_sharpNow 44 = .ok (.ifCond .lt 26, 3) := by decide +kernel
theorem dX8_sharpNow_47 : decode cX8_sharpNow 47 = .ok (.iload_n 3, 1) := by decide +kernel
theorem dX8_sharpNow_48 : decode cX8_sharpNow 48 = .ok (.iconst (-1), 1) := by decide +kernel
theorem dX8_sharpNow_49 : decode cX8_sharpNow 49 = .ok (.if_icmp .eq 14, 3) := by decide +kernel
theorem dX8_sharpNow_52 : decode cX8_sharpNow 52 = .ok (.dload 7, 2) := by decide +kernel
theorem dX8_sharpNow_54 : decode cX8_sharpNow 54 = .ok (.dload 4, 2) := by decide +kernel
theorem dX8_sharpNow_56 : decode cX8_sharpNow 56 = .ok (.dcmp .l, 1) := by decide +kernel
theorem dX8_sharpNow_57 : decode cX8_sharpNow 57 = .ok (.ifCond .lt 6, 3) := by decide +kernel
theorem dX8_sharpNow_60 : decode cX8_sharpNow 60 = .ok (.goto 10, 3) := by decide +kernel
theorem dX8_sharpNow_63 : decode cX8_sharpNow 63 = .ok (.iload 6, 2) := by decide +kernel
theorem dX8_sharpNow_65 : decode cX8_sharpNow 65 = .ok (.istore_n 3, 1) := by decide +kernel
theorem dX8_sharpNow_66 : decode cX8_sharpNow 66 = .ok (.dload 7, 2) := by decide +kernel
theorem dX8_sharpNow_68 : decode cX8_sharpNow 68 = .ok (.dstore 4, 2) := by decide +kernel
theorem dX8_sharpNow_70 : decode cX8_sharpNow 70 = .ok (.iinc 6 1, 3) := by decide +kernel
theorem dX8_sharpNow_73 : decode cX8_sharpNow 73 = .ok (.goto (-53), 3) := by decide +kernel
theorem dX8_sharpNow_76 : decode cX8_sharpNow 76 = .ok (.aload_n 0, 1) := by decide +kernel
theorem dX8_sharpNow_77 : decode cX8_sharpNow 77 = .ok (.iload_n 2, 1) := by decide +kernel
theorem dX8_sharpNow_78 : decode cX8_sharpNow 78 = .ok (.putfield 22, 3) := by decide +kernel
theorem dX8_sharpNow_81 : decode cX8_sharpNow 81 = .ok (.iload_n 3, 1) := by decide +kernel
theorem dX8_sharpNow_82 : decode cX8_sharpNow 82 = .ok (.ireturn, 1) := by decide +kernel
set_option maxRecDepth 20000 in
theorem ggX8_sharp_X8_is : GoodIn wsX8_sharp wsX8_is := goodIn_r _ [5] rfl (by decide +kernel)
set_option maxRecDepth 20000 in
theorem gX8_sharp_X8_is : GoodIn wsX8_sharp (va_wsS RX8 48 yX8_is wsX8_is) := goodIn_app (goodIn_of _ (by decide +kernel)) ggX8_sharp_X8_is
set_option maxRecDepth 20000 in
theorem ggX8_sharp_X8_sharpNow : GoodIn wsX8_sharp wsX8_sharpNow := goodIn_r _ [9, 10, 11, 12, 13, 4, 14, 15, 16, 17, 18, 19, 20, 21, 22, 23, 24, 25, 26, 27, 28, 29, 30, 31, 32, 33, 34, 35, 36, 37, 38, 39, 40, 41, 42, 43, 44, 45, 46, 47, 48, 49, 50, 51, 52, 53, 54, 55, 56, 57, 58, 59, 60, 61, 62, 63, 64, 65, 66, 67, 68, 69, 70, 71, 72, 73, 74, 75, 76, 77, 78, 83, 84, 85, 86, 87, 88, 89, 90, 91, 92, 93, 94, 95, 96] rfl (by decide +kernel)
set_option maxRecDepth 20000 in
theorem gX8_sharp_X8_sharpNow : GoodIn wsX8_sharp (wsV RX8 173 RX8 yX8_sharpNow wsX8_sharpNow) := goodIn_app (goodIn_of _ (by decide +kernel)) ggX8_sharp_X8_sharpNow
set_option maxRecDepth 20000 in
theorem ggX8_sharp_X8_refuse : GoodIn wsX8_sharp wsX8_refuse := goodIn_r _ [82, 1, 83, 84, 85, 86, 87, 88, 89, 90, 91, 92, 93, 94, 95, 96] rfl (by decide +kernel)
set_option maxRecDepth 20000 in
theorem gX8_sharp_X8_refuse : GoodIn wsX8_sharp (wsV RX8 45 RX8 yX8_refuse wsX8_refuse) := goodIn_app (goodIn_of _ (by decide +kernel)) ggX8_sharp_X8_refuse
theorem dX8_sharp_0 : decode cX8_sharp 0 = .ok (.aload_n 0, 1) := by decide +kernel
theorem dX8_sharp_1 : decode cX8_sharp 1 = .ok (.iconst 0, 1) := by decide +kernel
theorem dX8_sharp_2 : decode cX8_sharp 2 = .ok (.putfield 29, 3) := by decide +kernel
theorem dX8_sharp_5 : decode cX8_sharp 5 = .ok (.iload_n 1, 1) := by decide +kernel
theorem dX8_sharp_6 : decode cX8_sharp 6 = .ok (.iconst 0, 1) := by decide +kernel
theorem dX8_sharp_7 : decode cX8_sharp 7 = .ok (.iconst 2, 1) := by decide +kernel
theorem dX8_sharp_8 : decode cX8_sharp 8 = .ok (.invokestatic 48, 3) := by decide +kernel
theorem dX8_sharp_11 : decode cX8_sharp 11 = .ok (.ifCond .eq 11, 3) := by decide +kernel
theorem dX8_sharp_14 : decode cX8_sharp 14 = .ok (.aload_n 0, 1) := by decide +kernel
theorem dX8_sharp_15 : decode cX8_sharp 15 = .ok (.iload_n 1, 1) := by decide +kernel
theorem dX8_sharp_16 : decode cX8_sharp 16 = .ok (.invokevirtual 173, 3) := by decide +kernel
theorem dX8_sharp_19 : decode cX8_sharp 19 = .ok (.goto 8, 3) := by decide +kernel
theorem dX8_sharp_22 : decode cX8_sharp 22 = .ok (.aload_n 0, 1) := by decide +kernel
theorem dX8_sharp_23 : decode cX8_sharp 23 = .ok (.iconst 1, 1) := by decide +kernel
theorem dX8_sharp_24 : decode cX8_sharp 24 = .ok (.invokevirtual 45, 3) := by decide +kernel
theorem dX8_sharp_27 : decode cX8_sharp 27 = .ok (.ireturn, 1) := by decide +kernel
set_option maxRecDepth 20000 in
theorem ggX8_best_X8_isPiece : GoodIn wsX8_best wsX8_isPiece := goodIn_r _ [9, 10, 11, 12, 8, 13, 73, 74, 75, 76, 77, 78, 79, 80, 81, 82, 83, 84, 85, 86] rfl (by decide +kernel)
set_option maxRecDepth 20000 in
theorem gX8_best_X8_isPiece : GoodIn wsX8_best (wsV RX8 56 RX8 yX8_isPiece wsX8_isPiece) := goodIn_app (goodIn_of _ (by decide +kernel)) ggX8_best_X8_isPiece
set_option maxRecDepth 20000 in
theorem ggX8_best_X8_refuse : GoodIn wsX8_best wsX8_refuse := goodIn_r _ [17, 1, 73, 74, 75, 76, 77, 78, 79, 80, 81, 82, 83, 84, 85, 86] rfl (by decide +kernel)
set_option maxRecDepth 20000 in
theorem gX8_best_X8_refuse : GoodIn wsX8_best (wsV RX8 45 RX8 yX8_refuse wsX8_refuse) := goodIn_app (goodIn_of _ (by decide +kernel)) ggX8_best_X8_refuse
set_option maxRecDepth 20000 in
theorem ggX8_best_X8_is : GoodIn wsX8_best wsX8_is := goodIn_r _ [13] rfl (by decide +kernel)
set_option maxRecDepth 20000 in
theorem gX8_best_X8_is : GoodIn wsX8_best (va_wsS RX8 48 yX8_is wsX8_is) := goodIn_app (goodIn_of _ (by decide +kernel)) ggX8_best_X8_is
set_option maxRecDepth 20000 in
theorem ggX8_best_X8_at : GoodIn wsX8_best wsX8_at := goodIn_r _ [21, 10, 2, 73, 74, 75, 76, 77, 78, 79, 80, 81, 82, 83, 84, 85, 86] rfl (by decide +kernel)
set_option maxRecDepth 20000 in
theorem gX8_best_X8_at : GoodIn wsX8_best (wsV RX8 41 RX8 yX8_at wsX8_at) := goodIn_app (goodIn_of _ (by decide +kernel)) ggX8_best_X8_at
set_option maxRecDepth 20000 in
theorem ggX8_best_X8_blurNow : GoodIn wsX8_best wsX8_blurNow := goodIn_r _ [25, 26, 27, 28, 29, 30, 31, 32, 33, 34, 8, 35, 36, 3, 2, 37, 38, 4, 39, 40, 41, 42, 10, 43, 44, 45, 46, 47, 48, 49, 50, 51, 52, 53, 54, 55, 56, 57, 58, 59, 60, 61, 62, 63, 64, 65, 66, 67, 68, 69, 70, 71, 72, 73, 74, 75, 76, 77, 78, 79, 80, 81, 82, 83, 84, 85, 86] rfl (by decide +kernel)
set_option maxRecDepth 20000 in
theorem gX8_best_X8_blurNow : GoodIn wsX8_best (wsV RX8 167 RX8 yX8_blurNow wsX8_blurNow) := goodIn_app (goodIn_of _ (by decide +kernel)) ggX8_best_X8_blurNow
theorem dX8_best_0 : decode cX8_best 0 = .ok (.aload_n 0, 1) := by decide +kernel
theorem dX8_best_1 : decode cX8_best 1 = .ok (.iconst 0, 1) := by decide +kernel
theorem dX8_best_2 : decode cX8_best 2 = .ok (.putfield 29, 3) := by decide +kernel
theorem dX8_best_5 : decode cX8_best 5 = .ok (.aload_n 0, 1) := by decide +kernel
theorem dX8_best_6 : decode cX8_best 6 = .ok (.iload_n 1, 1) := by decide +kernel
theorem dX8_best_7 : decode cX8_best 7 = .ok (.invokevirtual 56, 3) := by decide +kernel
theorem dX8_best_10 : decode cX8_best 10 = .ok (.ifCond .ne 9, 3) := by decide +kernel
theorem dX8_best_13 : decode cX8_best 13 = .ok (.aload_n 0, 1) := by decide +kernel
theorem dX8_best_14 : decode cX8_best 14 = .ok (.iconst 1, 1) := by decide +kernel
theorem dX8_best_15 : decode cX8_best 15 = .ok (.invokevirtual 45, 3) := by decide +kernel
theorem dX8_best_18 : decode cX8_best 18 = .ok (.ireturn, 1) := by decide +kernel
theorem dX8_best_19 : decode cX8_best 19 = .ok (.iload_n 2, 1) := by decide +kernel
theorem dX8_best_20 : decode cX8_best 20 = .ok (.iconst 0, 1) := by decide +kernel
theorem dX8_best_21 : decode cX8_best 21 = .ok (.iconst 2, 1) := by decide +kernel
theorem dX8_best_22 : decode cX8_best 22 = .ok (.invokestatic 48, 3) := by decide +kernel
theorem dX8_best_25 : decode cX8_best 25 = .ok (.ifCond .ne 9, 3) := by decide +kernel
theorem dX8_best_28 : decode cX8_best 28 = .ok (.aload_n 0, 1) := by decide +kernel
theorem dX8_best_29 : decode cX8_best 29 = .ok (.iconst 2, 1) := by decide +kernel
theorem dX8_best_30 : decode cX8_best 30 = .ok (.invokevirtual 45, 3) := by decide +kernel
theorem dX8_best_33 : decode cX8_best 33 = .ok (.ireturn, 1) := by decide +kernel
theorem dX8_best_34 : decode cX8_best 34 = .ok (.aload_n 0, 1) := by decide +kernel
theorem dX8_best_35 : decode cX8_best 35 = .ok (.getfield 9, 3) := by decide +kernel
theorem dX8_best_38 : decode cX8_best 38 = .ok (.iload_n 1, 1) := by decide +kernel
theorem dX8_best_39 : decode cX8_best 39 = .ok (.iaload, 1) := by decide +kernel
theorem dX8_best_40 : decode cX8_best 40 = .ok (.istore_n 3, 1) := by decide +kernel
theorem dX8_best_41 : decode cX8_best 41 = .ok (.iconst (-1), 1) := by decide +kernel
theorem dX8_best_42 : decode cX8_best 42 = .ok (.istore 4, 2) := by decide +kernel
theorem dX8_best_44 : decode cX8_best 44 = .ok (.dconst 0, 1) := by decide +kernel
theorem dX8_best_45 : decode cX8_best 45 = .ok (.dstore 5, 2) := by decide +kernel
theorem dX8_best_47 : decode cX8_best 47 = .ok (.aload_n 0, 1) := by decide +kernel
theorem dX8_best_48 : decode cX8_best 48 = .ok (.getfield 60, 3) := by decide +kernel
theorem dX8_best_51 : decode cX8_best 51 = .ok (.iconst 1, 1) := by decide +kernel
theorem dX8_best_52 : decode cX8_best 52 = .ok (.iadd, 1) := by decide +kernel
theorem dX8_best_53 : decode cX8_best 53 = .ok (.istore 7, 2) := by decide +kernel
theorem dX8_best_55 : decode cX8_best 55 = .ok (.iload 7, 2) := by decide +kernel
theorem dX8_best_57 : decode cX8_best 57 = .ok (.aload_n 0, 1) := by decide +kernel
theorem dX8_best_58 : decode cX8_best 58 = .ok (.getfield 22, 3) := by decide +kernel
theorem dX8_best_61 : decode cX8_best 61 = .ok (.if_icmp .ge 79, 3) := by decide +kernel
theorem dX8_best_64 : decode cX8_best 64 = .ok (.aload_n 0, 1) := by decide +kernel
theorem dX8_best_65 : decode cX8_best 65 = .ok (.iload 7, 2) := by decide +kernel
theorem dX8_best_67 : decode cX8_best 67 = .ok (.invokevirtual 41, 3) := by decide +kernel
theorem dX8_best_70 : decode cX8_best 70 = .ok (.istore 8, 2) := by decide +kernel
theorem dX8_best_72 : decode cX8_best 72 = .ok (.iload 8, 2) := by decide +kernel
theorem dX8_best_74 : decode cX8_best 74 = .ok (.iconst (-1), 1) := by decide +kernel
theorem dX8_best_75 : decode cX8_best 75 = .ok (.if_icmp .eq 12, 3) := by decide +kernel
theorem dX8_best_78 : decode cX8_best 78 = .ok (.iload 8, 2) := by decide +kernel
theorem dX8_best_80 : decode cX8_best 80 = .ok (.iload_n 1, 1) := by decide +kernel
theorem dX8_best_81 : decode cX8_best 81 = .ok (.if_icmp .eq 6, 3) := by decide +kernel
theorem dX8_best_84 : decode cX8_best 84 = .ok (.goto 50, 3) := by decide +kernel
theorem dX8_best_87 : decode cX8_best 87 = .ok (.aload_n 0, 1) := by decide +kernel
theorem dX8_best_88 : decode cX8_best 88 = .ok (.getfield 9, 3) := by decide +kernel
theorem dX8_best_91 : decode cX8_best 91 = .ok (.iload_n 1, 1) := by decide +kernel
theorem dX8_best_92 : decode cX8_best 92 = .ok (.iload 7, 2) := by decide +kernel
theorem dX8_best_94 : decode cX8_best 94 = .ok (.iastore, 1) := by decide +kernel
theorem dX8_best_95 : decode cX8_best 95 = .ok (.aload_n 0, 1) := by decide +kernel
theorem dX8_best_96 : decode cX8_best 96 = .ok (.iload_n 2, 1) := by decide +kernel
theorem dX8_best_97 : decode cX8_best 97 = .ok (.invokevirtual 167, 3) := by decide +kernel
theorem dX8_best_100 : decode cX8_best 100 = .ok (.dstore 9, 2) := by decide +kernel
theorem dX8_best_102 : decode cX8_best 102 = .ok (.dload 9, 2) := by decide +kernel
theorem dX8_best_104 : decode cX8_best 104 = .ok (.dconst 0, 1) := by decide +kernel
theorem dX8_best_105 : decode cX8_best 105 = .ok (.dcmp .g, 1) := by decide +kernel
theorem dX8_best_106 : decode cX8_best 106 = .ok (.ifCond .lt 28, 3) := by decide +kernel
theorem dX8_best_109 : decode cX8_best 109 = .ok (.iload 4, 2) := by decide +kernel
theorem dX8_best_111 : decode cX8_best 111 = .ok (.iconst (-1), 1) := by decide +kernel
theorem dX8_best_112 : decode cX8_best 112 = .ok (.if_icmp .eq 14, 3) := by decide +kernel
theorem dX8_best_115 : decode cX8_best 115 = .ok (.dload 9, 2) := by decide +kernel
theorem dX8_best_117 : decode cX8_best 117 = .ok (.dload 5, 2) := by decide +kernel
theorem dX8_best_119 : decode cX8_best 119 = .ok (.dcmp .l, 1) := by decide +kernel
theorem dX8_best_120 : decode cX8_best 120 = .ok (.ifCond .lt 6, 3) := by decide +kernel
theorem dX8_best_123 : decode cX8_best 123 = .ok (.goto 11, 3) := by decide +kernel
theorem dX8_best_126 : decode cX8_best 126 = .ok (.iload 7, 2) := by decide +kernel
theorem dX8_best_128 : decode cX8_best 128 = .ok (.istore 4, 2) := by decide +kernel
theorem dX8_best_130 : decode cX8_best 130 = .ok (.dload 9, 2) := by decide +kernel
theorem dX8_best_132 : decode cX8_best 132 = .ok (.dstore 5, 2) := by decide +kernel
theorem dX8_best_134 : decode cX8_best 134 = .ok (.iinc 7 1, 3) := by decide +kernel
theorem dX8_best_137 : decode cX8_best 137 = .ok (.goto (-82), 3) := by decide +kernel
theorem dX8_best_140 : decode cX8_best 140 = .ok (.aload_n 0, 1) := by decide +kernel
theorem dX8_best_141 : decode cX8_best 141 = .ok (.getfield 9, 3) := by decide +kernel
theorem dX8_best_144 : decode cX8_best 144 = .ok (.iload_n 1, 1) := by decide +kernel
theorem dX8_best_145 : decode cX8_best 145 = .ok (.iload_n 3, 1) := by decide +kernel
theorem dX8_best_146 : decode cX8_best 146 = .ok (.iastore, 1) := by decide +kernel
theorem dX8_best_147 : decode cX8_best 147 = .ok (.iload 4, 2) := by decide +kernel
theorem dX8_best_149 : decode cX8_best 149 = .ok (.ireturn, 1) := by decide +kernel
set_option maxRecDepth 20000 in
theorem ggX8_without_X8_isPiece : GoodIn wsX8_without wsX8_isPiece := goodIn_r _ [6, 7, 8, 9, 5, 10, 58, 59, 60, 61, 62, 63, 64, 65, 66, 67, 68, 69, 70, 71] rfl (by decide +kernel)
set_option maxRecDepth 20000 in
theorem gX8_without_X8_isPiece : GoodIn wsX8_without (wsV RX8 56 RX8 yX8_isPiece wsX8_isPiece) := goodIn_app (goodIn_of _ (by decide +kernel)) ggX8_without_X8_isPiece
set_option maxRecDepth 20000 in
theorem ggX8_without_X8_light : GoodIn wsX8_without wsX8_light := goodIn_r _ [14, 15, 16, 17, 18, 19, 20, 21, 5, 22, 23, 24, 25, 26, 27, 28, 29, 30, 31, 32, 33, 7, 34, 35, 36, 37, 38, 39, 40, 41, 42, 43, 44, 45, 46, 47, 48, 49, 50, 51, 52, 53, 58, 59, 60, 61, 62, 63, 64, 65, 66, 67, 68, 69, 70, 71] rfl (by decide +kernel)
set_option maxRecDepth 20000 in
theorem gX8_without_X8_light : GoodIn wsX8_without (wsV RX8 139 RX8 yX8_light wsX8_light) := goodIn_app (goodIn_of _ (by decide +kernel)) ggX8_without_X8_light
set_option maxRecDepth 20000 in
theorem ggX8_without_X8_refuse : GoodIn wsX8_without wsX8_refuse := goodIn_r _ [57, 1, 58, 59, 60, 61, 62, 63, 64, 65, 66, 67, 68, 69, 70, 71] rfl (by decide +kernel)
set_option maxRecDepth 20000 in
theorem gX8_without_X8_refuse : GoodIn wsX8_without (wsV RX8 45 RX8 yX8_refuse wsX8_refuse) := goodIn_app (goodIn_of _ (by decide +kernel)) ggX8_without_X8_refuse
theorem dX8_without_0 : decode cX8_without 0 = .ok (.aload_n 0, 1) := by decide +kernel
theorem dX8_without_1 : decode cX8_without 1 = .ok (.iconst 0, 1) := by decide +kernel
theorem dX8_without_2 : decode cX8_without 2 = .ok (.putfield 29, 3) := by decide +kernel
theorem dX8_without_5 : decode cX8_without 5 = .ok (.aload_n 0, 1) := by decide +kernel
theorem dX8_without_6 : decode cX8_without 6 = .ok (.iload_n 1, 1) := by decide +kernel
theorem dX8_without_7 : decode cX8_without 7 = .ok (.invokevirtual 56, 3) := by decide +kernel
theorem dX8_without_10 : decode cX8_without 10 = .ok (.ifCond .eq 11, 3) := by decide +kernel
theorem dX8_without_13 : decode cX8_without 13 = .ok (.aload_n 0, 1) := by decide +kernel
theorem dX8_without_14 : decode cX8_without 14 = .ok (.iload_n 1, 1) := by decide +kernel
theorem dX8_without_15 : decode cX8_without 15 = .ok (.invokevirtual 139, 3) := by decide +kernel
theorem dX8_without_18 : decode cX8_without 18 = .ok (.goto 8, 3) := by decide +kernel
theorem dX8_without_21 : decode cX8_without 21 = .ok (.aload_n 0, 1) := by decide +kernel
theorem dX8_without_22 : decode cX8_without 22 = .ok (.iconst 1, 1) := by decide +kernel
theorem dX8_without_23 : decode cX8_without 23 = .ok (.invokevirtual 45, 3) := by decide +kernel
theorem dX8_without_26 : decode cX8_without 26 = .ok (.ireturn, 1) := by decide +kernel
theorem dX8_add_0 : decode cX8_add 0 = .ok (.aload_n 0, 1) := by decide +kernel
theorem dX8_add_1 : decode cX8_add 1 = .ok (.aload_n 0, 1) := by decide +kernel
theorem dX8_add_2 : decode cX8_add 2 = .ok (.getfield 176, 3) := by decide +kernel
theorem dX8_add_5 : decode cX8_add 5 = .ok (.ldc2_w 180, 3) := by decide +kernel
theorem dX8_add_8 : decode cX8_add 8 = .ok (.lmul, 1) := by decide +kernel
theorem dX8_add_9 : decode cX8_add 9 = .ok (.lload_n 1, 1) := by decide +kernel
theorem dX8_add_10 : decode cX8_add 10 = .ok (.ladd, 1) := by decide +kernel
theorem dX8_add_11 : decode cX8_add 11 = .ok (.putfield 176, 3) := by decide +kernel
theorem dX8_add_14 : decode cX8_add 14 = .ok (.return_, 1) := by decide +kernel
set_option maxRecDepth 20000 in
theorem ggX8_addPoint_X8_add : GoodIn wsX8_addPoint wsX8_add := goodIn_r _ [6, 7, 8, 9, 10, 11, 12, 13, 14, 15, 16, 17, 18, 19, 20, 21, 22] rfl (by decide +kernel)
set_option maxRecDepth 20000 in
theorem gX8_addPoint_X8_add : GoodIn wsX8_addPoint (wsV RX8 184 RX8 yX8_add wsX8_add) := goodIn_app (goodIn_of _ (by decide +kernel)) ggX8_addPoint_X8_add
theorem dX8_addPoint_0 : decode cX8_addPoint 0 = .ok (.aload_n 0, 1) := by decide +kernel
theorem dX8_addPoint_1 : decode cX8_addPoint 1 = .ok (.ldc2_w 182, 3) := by decide +kernel
theorem dX8_addPoint_4 : decode cX8_addPoint 4 = .ok (.dload_n 1, 1) := by decide +kernel
theorem dX8_addPoint_5 : decode cX8_addPoint 5 = .ok (.dmul, 1) := by decide +kernel
theorem dX8_addPoint_6 : decode cX8_addPoint 6 = .ok (.d2l, 1) := by decide +kernel
theorem dX8_addPoint_7 : decode cX8_addPoint 7 = .ok (.invokevirtual 184, 3) := by decide +kernel
theorem dX8_addPoint_10 : decode cX8_addPoint 10 = .ok (.return_, 1) := by decide +kernel
set_option maxRecDepth 20000 in
theorem ggX8_digest_X8_manyNow : GoodIn wsX8_digest wsX8_manyNow := goodIn_r _ [9, 10, 4, 11, 12, 13, 14, 15, 16, 17, 18, 8, 19, 20, 21, 22, 23, 24, 25, 26, 27, 28, 29, 30, 31, 32, 33, 34, 35, 36, 37, 38, 39, 40, 41, 42, 43, 44, 45, 46, 47, 48, 49, 50, 51, 52, 53, 54, 55, 56, 57, 58, 128, 129, 130, 131, 132, 133, 134, 135, 136, 137, 138, 139, 140, 141] rfl (by decide +kernel)
set_option maxRecDepth 20000 in
theorem gX8_digest_X8_manyNow : GoodIn wsX8_digest (wsV RX8 142 RX8 yX8_manyNow wsX8_manyNow) := goodIn_app (goodIn_of _ (by decide +kernel)) ggX8_digest_X8_manyNow
set_option maxRecDepth 20000 in
theorem ggX8_digest_X8_add : GoodIn wsX8_digest wsX8_add := goodIn_r _ [62, 3, 63, 128, 129, 130, 131, 132, 133, 134, 135, 136, 137, 138, 139, 140, 141] rfl (by decide +kernel)
set_option maxRecDepth 20000 in
theorem gX8_digest_X8_add : GoodIn wsX8_digest (wsV RX8 184 RX8 yX8_add wsX8_add) := goodIn_app (goodIn_of _ (by decide +kernel)) ggX8_digest_X8_add
set_option maxRecDepth 20000 in
theorem ggX8_digest_X8_ofPieceNow : GoodIn wsX8_digest wsX8_ofPieceNow := goodIn_r _ [67, 12, 25, 11, 43, 68, 69, 70, 8, 71, 10, 16, 17, 18, 19, 4, 13, 128, 129, 130, 131, 132, 133, 134, 135, 136, 137, 138, 139, 140, 141] rfl (by decide +kernel)
set_option maxRecDepth 20000 in
theorem gX8_digest_X8_ofPieceNow : GoodIn wsX8_digest (wsV RX8 124 RX8 yX8_ofPieceNow wsX8_ofPieceNow) := goodIn_app (goodIn_of _ (by decide +kernel)) ggX8_digest_X8_ofPieceNow
set_option maxRecDepth 20000 in
theorem ggX8_digest_X8_strengthNow : GoodIn wsX8_digest wsX8_strengthNow := goodIn_r _ [42, 11, 43, 44, 45, 46, 128, 129, 130, 131, 132, 133, 134, 135, 136, 137, 138, 139, 140, 141] rfl (by decide +kernel)
set_option maxRecDepth 20000 in
theorem gX8_digest_X8_strengthNow : GoodIn wsX8_digest (wsV RX8 85 RX8 yX8_strengthNow wsX8_strengthNow) := goodIn_app (goodIn_of _ (by decide +kernel)) ggX8_digest_X8_strengthNow
set_option maxRecDepth 20000 in
theorem ggX8_digest_X8_addPoint : GoodIn wsX8_digest wsX8_addPoint := goodIn_r _ [75, 76, 59, 60, 61, 8, 62, 3, 63, 128, 129, 130, 131, 132, 133, 134, 135, 136, 137, 138, 139, 140, 141] rfl (by decide +kernel)
set_option maxRecDepth 20000 in
theorem gX8_digest_X8_addPoint : GoodIn wsX8_digest (wsV RX8 190 RX8 yX8_addPoint wsX8_addPoint) := goodIn_app (goodIn_of _ (by decide +kernel)) ggX8_digest_X8_addPoint
set_option maxRecDepth 20000 in
theorem ggX8_digest_X8_throughNow : GoodIn wsX8_digest wsX8_throughNow := goodIn_r _ [80, 15, 51, 52, 53, 12, 68, 69, 70, 8, 71, 10, 16, 17, 18, 19, 4, 13, 54, 55, 56, 57, 24, 58, 25, 11, 27, 28, 29, 30, 31, 32, 33, 34, 35, 36, 37, 38, 39, 40, 41, 42, 43, 44, 45, 46, 128, 129, 130, 131, 132, 133, 134, 135, 136, 137, 138, 139, 140, 141] rfl (by decide +kernel)
set_option maxRecDepth 20000 in
theorem gX8_digest_X8_throughNow : GoodIn wsX8_digest (wsV RX8 145 RX8 yX8_throughNow wsX8_throughNow) := goodIn_app (goodIn_of _ (by decide +kernel)) ggX8_digest_X8_throughNow
set_option maxRecDepth 20000 in
theorem ggX8_digest_X8_light : GoodIn wsX8_digest wsX8_light := goodIn_r _ [50, 15, 51, 52, 53, 54, 55, 56, 8, 57, 24, 58, 10, 12, 25, 11, 13, 16, 17, 18, 19, 4, 27, 28, 29, 30, 31, 32, 33, 34, 35, 36, 37, 38, 39, 40, 41, 42, 43, 44, 45, 46, 128, 129, 130, 131, 132, 133, 134, 135, 136, 137, 138, 139, 140, 141] rfl (by decide +kernel)
set_option maxRecDepth 20000 in
theorem gX8_digest_X8_light : GoodIn wsX8_digest (wsV RX8 139 RX8 yX8_light wsX8_light) := goodIn_app (goodIn_of _ (by decide +kernel)) ggX8_digest_X8_light
set_option maxRecDepth 20000 in
theorem ggX8_digest_X8_tableNow : GoodIn wsX8_digest wsX8_tableNow := goodIn_r _ [84, 10, 12, 11, 16, 17, 18, 8, 19, 4, 13, 39, 40, 41, 42, 43, 44, 45, 46, 85, 86, 87, 128, 129, 130, 131, 132, 133, 134, 135, 136, 137, 138, 139, 140, 141] rfl (by decide +kernel)
set_option maxRecDepth 20000 in
theorem gX8_digest_X8_tableNow : GoodIn wsX8_digest (wsV RX8 112 RX8 yX8_tableNow wsX8_tableNow) := goodIn_app (goodIn_of _ (by decide +kernel)) ggX8_digest_X8_tableNow
set_option maxRecDepth 20000 in
theorem ggX8_digest_X8_imageNow : GoodIn wsX8_digest wsX8_imageNow := goodIn_r _ [91, 26, 81, 82, 83, 8, 84, 10, 12, 11, 16, 17, 18, 19, 4, 13, 39, 40, 41, 42, 43, 44, 45, 46, 85, 86, 87, 27, 28, 29, 30, 31, 32, 33, 34, 35, 36, 37, 38, 92, 93, 94, 95, 96, 97, 98, 99, 128, 129, 130, 131, 132, 133, 134, 135, 136, 137, 138, 139, 140, 141] rfl (by decide +kernel)
set_option maxRecDepth 20000 in
theorem gX8_digest_X8_imageNow : GoodIn wsX8_digest (wsV RX8 132 RX8 yX8_imageNow wsX8_imageNow) := goodIn_app (goodIn_of _ (by decide +kernel)) ggX8_digest_X8_imageNow
set_option maxRecDepth 20000 in
theorem ggX8_digest_X8_blurNow : GoodIn wsX8_digest wsX8_blurNow := goodIn_r _ [103, 15, 51, 52, 53, 24, 104, 54, 55, 56, 8, 57, 58, 10, 12, 25, 11, 13, 16, 17, 18, 19, 4, 27, 28, 29, 30, 31, 32, 33, 34, 35, 36, 37, 38, 39, 40, 41, 42, 43, 44, 45, 46, 105, 106, 107, 108, 109, 110, 111, 85, 86, 87, 128, 129, 130, 131, 132, 133, 134, 135, 136, 137, 138, 139, 140, 141] rfl (by decide +kernel)
set_option maxRecDepth 20000 in
theorem gX8_digest_X8_blurNow : GoodIn wsX8_digest (wsV RX8 167 RX8 yX8_blurNow wsX8_blurNow) := goodIn_app (goodIn_of _ (by decide +kernel)) ggX8_digest_X8_blurNow
set_option maxRecDepth 20000 in
theorem ggX8_digest_J9_max_eb370 : GoodIn wsX8_digest wsJ9_max_eb370 := goodIn_r _ [111, 31, 32, 33, 34, 108] rfl (by decide +kernel)
set_option maxRecDepth 20000 in
theorem gX8_digest_J9_max_eb370 : GoodIn wsX8_digest (va_wsS RX8 101 yJ9_max_eb370 wsJ9_max_eb370) := goodIn_app (goodIn_of _ (by decide +kernel)) ggX8_digest_J9_max_eb370
set_option maxRecDepth 20000 in
theorem ggX8_digest_X8_graspNow : GoodIn wsX8_digest wsX8_graspNow := goodIn_r _ [115, 24, 20, 21, 22, 8, 23, 10, 12, 25, 26, 11, 16, 17, 18, 19, 4, 13, 27, 28, 29, 30, 31, 32, 33, 34, 35, 36, 37, 38, 39, 40, 41, 42, 43, 44, 45, 46, 85, 86, 87, 128, 129, 130, 131, 132, 133, 134, 135, 136, 137, 138, 139, 140, 141] rfl (by decide +kernel)
set_option maxRecDepth 20000 in
theorem gX8_digest_X8_graspNow : GoodIn wsX8_digest (wsV RX8 163 RX8 yX8_graspNow wsX8_graspNow) := goodIn_app (goodIn_of _ (by decide +kernel)) ggX8_digest_X8_graspNow
set_option maxRecDepth 20000 in
theorem ggX8_digest_X8_apartNow : GoodIn wsX8_digest wsX8_apartNow := goodIn_r _ [119, 92, 93, 94, 8, 95, 26, 81, 82, 83, 84, 10, 12, 11, 16, 17, 18, 19, 4, 13, 39, 40, 41, 42, 43, 44, 45, 46, 85, 86, 87, 27, 28, 29, 30, 31, 32, 33, 34, 35, 36, 37, 38, 96, 97, 98, 99, 128, 129, 130, 131, 132, 133, 134, 135, 136, 137, 138, 139, 140, 141] rfl (by decide +kernel)
set_option maxRecDepth 20000 in
theorem gX8_digest_X8_apartNow : GoodIn wsX8_digest (wsV RX8 170 RX8 yX8_apartNow wsX8_apartNow) := goodIn_app (goodIn_of _ (by decide +kernel)) ggX8_digest_X8_apartNow
set_option maxRecDepth 20000 in
theorem ggX8_digest_X8_sharpNow : GoodIn wsX8_digest wsX8_sharpNow := goodIn_r _ [123, 13, 5, 6, 7, 8, 9, 10, 4, 11, 12, 14, 15, 16, 17, 18, 19, 20, 21, 22, 23, 24, 25, 26, 27, 28, 29, 30, 31, 32, 33, 34, 35, 36, 37, 38, 39, 40, 41, 42, 43, 44, 45, 46, 47, 48, 49, 50, 51, 52, 53, 54, 55, 56, 57, 58, 100, 101, 102, 103, 104, 105, 106, 107, 108, 109, 110, 111, 85, 86, 87, 128, 129, 130, 131, 132, 133, 134, 135, 136, 137, 138, 139, 140, 141] rfl (by decide +kernel)
set_option maxRecDepth 20000 in
theorem gX8_digest_X8_sharpNow : GoodIn wsX8_digest (wsV RX8 173 RX8 yX8_sharpNow wsX8_sharpNow) := goodIn_app (goodIn_of _ (by decide +kernel)) ggX8_digest_X8_sharpNow
set_option maxRecDepth 20000 in
theorem ggX8_digest_X8_rayNow : GoodIn wsX8_digest wsX8_rayNow := goodIn_r _ [127, 51, 46, 24, 58, 53, 54, 55, 56, 8, 57, 10, 12, 25, 11, 13, 16, 17, 18, 19, 4, 27, 28, 29, 30, 31, 32, 33, 34, 35, 36, 37, 38, 39, 40, 41, 42, 43, 44, 45, 85, 86, 87, 128, 129, 130, 131, 132, 133, 134, 135, 136, 137, 138, 139, 140, 141] rfl (by decide +kernel)
set_option maxRecDepth 20000 in
theorem gX8_digest_X8_rayNow : GoodIn wsX8_digest (wsV RX8 128 RX8 yX8_rayNow wsX8_rayNow) := goodIn_app (goodIn_of _ (by decide +kernel)) ggX8_digest_X8_rayNow
theorem dX8_digest_0 : decode cX8_digest 0 = .ok (.aload_n 0, 1) := by decide +kernel
theorem dX8_digest_1 : decode cX8_digest 1 = .ok (.iconst 0, 1) := by decide +kernel
theorem dX8_digest_2 : decode cX8_digest 2 = .ok (.putfield 29, 3) := by decide +kernel
theorem dX8_digest_5 : decode cX8_digest 5 = .ok (.aload_n 0, 1) := by decide +kernel
theorem dX8_digest_6 : decode cX8_digest 6 = .ok (.ldc2_w 188, 3) := by decide +kernel
theorem dX8_digest_9 : decode cX8_digest 9 = .ok (.putfield 176, 3) := by decide +kernel
theorem dX8_digest_12 : decode cX8_digest 12 = .ok (.iconst 0, 1) := by decide +kernel
theorem dX8_digest_13 : decode cX8_digest 13 = .ok (.istore_n 1, 1) := by decide +kernel
theorem dX8_digest_14 : decode cX8_digest 14 = .ok (.iload_n 1, 1) := by decide +kernel
theorem dX8_digest_15 : decode cX8_digest 15 = .ok (.bipush 10, 2) := by decide +kernel
theorem dX8_digest_17 : decode cX8_digest 17 = .ok (.if_icmp .ge 19, 3) := by decide +kernel
theorem dX8_digest_20 : decode cX8_digest 20 = .ok (.aload_n 0, 1) := by decide +kernel
theorem dX8_digest_21 : decode cX8_digest 21 = .ok (.aload_n 0, 1) := by decide +kernel
theorem dX8_digest_22 : decode cX8_digest 22 = .ok (.iload_n 1, 1) := by decide +kernel
theorem dX8_digest_23 : decode cX8_digest 23 = .ok (.invokevirtual 142, 3) := by decide +kernel
theorem dX8_digest_26 : decode cX8_digest 26 = .ok (.i2l, 1) := by decide +kernel
theorem dX8_digest_27 : decode cX8_digest 27 = .ok (.invokevirtual 184, 3) := by decide +kernel
theorem dX8_digest_30 : decode cX8_digest 30 = .ok (.iinc 1 1, 3) := by decide +kernel
theorem dX8_digest_33 : decode cX8_digest 33 = .ok (.goto (-19), 3) := by decide +kernel
theorem dX8_digest_36 : decode cX8_digest 36 = .ok (.iconst 0, 1) := by decide +kernel
theorem dX8_digest_37 : decode cX8_digest 37 = .ok (.istore_n 1, 1) := by decide +kernel
theorem dX8_digest_38 : decode cX8_digest 38 = .ok (.iload_n 1, 1) := by decide +kernel
theorem dX8_digest_39 : decode cX8_digest 39 = .ok (.aload_n 0, 1) := by decide +kernel
theorem dX8_digest_40 : decode cX8_digest 40 = .ok (.getfield 32, 3) := by decide +kernel
theorem dX8_digest_43 : decode cX8_digest 43 = .ok (.if_icmp .ge 76, 3) := by decide +kernel
theorem dX8_digest_46 : decode cX8_digest 46 = .ok (.iconst 0, 1) := by decide +kernel
theorem dX8_digest_47 : decode cX8_digest 47 = .ok (.istore_n 2, 1) := by decide +kernel
theorem dX8_digest_48 : decode cX8_digest 48 = .ok (.iload_n 2, 1) := by decide +kernel
theorem dX8_digest_49 : decode cX8_digest 49 = .ok (.iconst 5, 1) := by decide +kernel
theorem dX8_digest_50 : decode cX8_digest 50 = .ok (.if_icmp .ge 20, 3) := by decide +kernel
theorem dX8_digest_53 : decode cX8_digest 53 = .ok (.aload_n 0, 1) := by decide +kernel
theorem dX8_digest_54 : decode cX8_digest 54 = .ok (.aload_n 0, 1) := by decide +kernel
theorem dX8_digest_55 : decode cX8_digest 55 = .ok (.iload_n 1, 1) := by decide +kernel
theorem dX8_digest_56 : decode cX8_digest 56 = .ok (.iload_n 2, 1) := by decide +kernel
theorem dX8_digest_57 : decode cX8_digest 57 = .ok (.invokevirtual 124, 3) := by decide +kernel
theorem dX8_digest_60 : decode cX8_digest 60 = .ok (.i2l, 1) := by decide +kernel
theorem dX8_digest_61 : decode cX8_digest 61 = .ok (.invokevirtual 184, 3) := by decide +kernel
theorem dX8_digest_64 : decode cX8_digest 64 = .ok (.iinc 2 1, 3) := by decide +kernel
theorem dX8_digest_67 : decode cX8_digest 67 = .ok (.goto (-19), 3) := by decide +kernel
theorem dX8_digest_70 : decode cX8_digest 70 = .ok (.iconst 0, 1) := by decide +kernel
theorem dX8_digest_71 : decode cX8_digest 71 = .ok (.istore_n 2, 1) := by decide +kernel
theorem dX8_digest_72 : decode cX8_digest 72 = .ok (.iload_n 2, 1) := by decide +kernel
theorem dX8_digest_73 : decode cX8_digest 73 = .ok (.iconst 3, 1) := by decide +kernel
theorem dX8_digest_74 : decode cX8_digest 74 = .ok (.if_icmp .ge 19, 3) := by decide +kernel
theorem dX8_digest_77 : decode cX8_digest 77 = .ok (.aload_n 0, 1) := by decide +kernel
theorem dX8_digest_78 : decode cX8_digest 78 = .ok (.aload_n 0, 1) := by decide +kernel
theorem dX8_digest_79 : decode cX8_digest 79 = .ok (.iload_n 1, 1) := by decide +kernel
theorem dX8_digest_80 : decode cX8_digest 80 = .ok (.iload_n 2, 1) := by decide +kernel
theorem dX8_digest_81 : decode cX8_digest 81 = .ok (.invokevirtual 85, 3) := by decide +kernel
theorem dX8_digest_84 : decode cX8_digest 84 = .ok (.invokevirtual 190, 3) := by decide +kernel
theorem dX8_digest_87 : decode cX8_digest 87 = .ok (.iinc 2 1, 3) := by decide +kernel
theorem dX8_digest_90 : decode cX8_digest 90 = .ok (.goto (-18), 3) := by decide +kernel
theorem dX8_digest_93 : decode cX8_digest 93 = .ok (.aload_n 0, 1) := by decide +kernel
theorem dX8_digest_94 : decode cX8_digest 94 = .ok (.aload_n 0, 1) := by decide +kernel
theorem dX8_digest_95 : decode cX8_digest 95 = .ok (.iload_n 1, 1) := by decide +kernel
theorem dX8_digest_96 : decode cX8_digest 96 = .ok (.invokevirtual 145, 3) := by decide +kernel
theorem dX8_digest_99 : decode cX8_digest 99 = .ok (.i2l, 1) := by decide +kernel
theorem dX8_digest_100 : decode cX8_digest 100 = .ok (.invokevirtual 184, 3) := by decide +kernel
theorem dX8_digest_103 : decode cX8_digest 103 = .ok (.aload_n 0, 1) := by decide +kernel
theorem dX8_digest_104 : decode cX8_digest 104 = .ok (.aload_n 0, 1) := by decide +kernel
theorem dX8_digest_105 : decode cX8_digest 105 = .ok (.iload_n 1, 1) := by decide +kernel
theorem dX8_digest_106 : decode cX8_digest 106 = .ok (.invokevirtual 139, 3) := by decide +kernel
theorem dX8_digest_109 : decode cX8_digest 109 = .ok (.i2l, 1) := by decide +kernel
theorem dX8_digest_110 : decode cX8_digest 110 = .ok (.invokevirtual 184, 3) := by decide +kernel
theorem dX8_digest_113 : decode cX8_digest 113 = .ok (.iinc 1 1, 3) := by decide +kernel
theorem dX8_digest_116 : decode cX8_digest 116 = .ok (.goto (-78), 3) := by decide +kernel
theorem dX8_digest_119 : decode cX8_digest 119 = .ok (.iconst 0, 1) := by decide +kernel
theorem dX8_digest_120 : decode cX8_digest 120 = .ok (.istore_n 1, 1) := by decide +kernel
theorem dX8_digest_121 : decode cX8_digest 121 = .ok (.iload_n 1, 1) := by decide +kernel
theorem dX8_digest_122 : decode cX8_digest 122 = .ok (.iconst 3, 1) := by decide +kernel
theorem dX8_digest_123 : decode cX8_digest 123 = .ok (.if_icmp .ge 68, 3) := by decide +kernel
theorem dX8_digest_126 : decode cX8_digest 126 = .ok (.iconst 0, 1) := by decide +kernel
theorem dX8_digest_127 : decode cX8_digest 127 = .ok (.istore_n 2, 1) := by decide +kernel
theorem dX8_digest_128 : decode cX8_digest 128 = .ok (.iload_n 2, 1) := by decide +kernel
theorem dX8_digest_129 : decode cX8_digest 129 = .ok (.iconst 4, 1) := by decide +kernel
theorem dX8_digest_130 : decode cX8_digest 130 = .ok (.if_icmp .ge 19, 3) := by decide +kernel
theorem dX8_digest_133 : decode cX8_digest 133 = .ok (.aload_n 0, 1) := by decide +kernel
theorem dX8_digest_134 : decode cX8_digest 134 = .ok (.aload_n 0, 1) := by decide +kernel
theorem dX8_digest_135 : decode cX8_digest 135 = .ok (.iload_n 1, 1) := by decide +kernel
theorem dX8_digest_136 : decode cX8_digest 136 = .ok (.iload_n 2, 1) := by decide +kernel
theorem dX8_digest_137 : decode cX8_digest 137 = .ok (.invokevirtual 112, 3) := by decide +kernel
theorem dX8_digest_140 : decode cX8_digest 140 = .ok (.invokevirtual 190, 3) := by decide +kernel
theorem dX8_digest_143 : decode cX8_digest 143 = .ok (.iinc 2 1, 3) := by decide +kernel
theorem dX8_digest_146 : decode cX8_digest 146 = .ok (.goto (-18), 3) := by decide +kernel
theorem dX8_digest_149 : decode cX8_digest 149 = .ok (.iconst 0, 1) := by decide +kernel
theorem dX8_digest_150 : decode cX8_digest 150 = .ok (.istore_n 2, 1) := by decide +kernel
theorem dX8_digest_151 : decode cX8_digest 151 = .ok (.iload_n 2, 1) := by decide +kernel
theorem dX8_digest_152 : decode cX8_digest 152 = .ok (.iconst 5, 1) := by decide +kernel
theorem dX8_digest_153 : decode cX8_digest 153 = .ok (.if_icmp .ge 19, 3) := by decide +kernel
theorem dX8_digest_156 : decode cX8_digest 156 = .ok (.aload_n 0, 1) := by decide +kernel
theorem dX8_digest_157 : decode cX8_digest 157 = .ok (.aload_n 0, 1) := by decide +kernel
theorem dX8_digest_158 : decode cX8_digest 158 = .ok (.iload_n 1, 1) := by decide +kernel
theorem dX8_digest_159 : decode cX8_digest 159 = .ok (.iload_n 2, 1) := by decide +kernel
theorem dX8_digest_160 : decode cX8_digest 160 = .ok (.invokevirtual 132, 3) := by decide +kernel
theorem dX8_digest_163 : decode cX8_digest 163 = .ok (.invokevirtual 190, 3) := by decide +kernel
theorem dX8_digest_166 : decode cX8_digest 166 = .ok (.iinc 2 1, 3) := by decide +kernel
theorem dX8_digest_169 : decode cX8_digest 169 = .ok (.goto (-18), 3) := by decide +kernel
theorem dX8_digest_172 : decode cX8_digest 172 = .ok (.aload_n 0, 1) := by decide +kernel
theorem dX8_digest_173 : decode cX8_digest 173 = .ok (.dconst 0, 1) := by decide +kernel
theorem dX8_digest_174 : decode cX8_digest 174 = .ok (.aload_n 0, 1) := by decide +kernel
theorem dX8_digest_175 : decode cX8_digest 175 = .ok (.iload_n 1, 1) := by decide +kernel
theorem dX8_digest_176 : decode cX8_digest 176 = .ok (.invokevirtual 167, 3) := by decide +kernel
theorem dX8_digest_179 : decode cX8_digest 179 = .ok (.invokestatic 101, 3) := by decide +kernel
theorem dX8_digest_182 : decode cX8_digest 182 = .ok (.invokevirtual 190, 3) := by decide +kernel
theorem dX8_digest_185 : decode cX8_digest 185 = .ok (.iinc 1 1, 3) := by decide +kernel
theorem dX8_digest_188 : decode cX8_digest 188 = .ok (.goto (-67), 3) := by decide +kernel
theorem dX8_digest_191 : decode cX8_digest 191 = .ok (.aload_n 0, 1) := by decide +kernel
theorem dX8_digest_192 : decode cX8_digest 192 = .ok (.aload_n 0, 1) := by decide +kernel
theorem dX8_digest_193 : decode cX8_digest 193 = .ok (.invokevirtual 163, 3) := by decide +kernel
theorem dX8_digest_196 : decode cX8_digest 196 = .ok (.invokevirtual 190, 3) := by decide +kernel
theorem dX8_digest_199 : decode cX8_digest 199 = .ok (.aload_n 0, 1) := by decide +kernel
theorem dX8_digest_200 : decode cX8_digest 200 = .ok (.aload_n 0, 1) := by decide +kernel
theorem dX8_digest_201 : decode cX8_digest 201 = .ok (.invokevirtual 170, 3) := by decide +kernel
theorem dX8_digest_204 : decode cX8_digest 204 = .ok (.invokevirtual 190, 3) := by decide +kernel
theorem dX8_digest_207 : decode cX8_digest 207 = .ok (.aload_n 0, 1) := by decide +kernel
theorem dX8_digest_208 : decode cX8_digest 208 = .ok (.aload_n 0, 1) := by decide +kernel
theorem dX8_digest_209 : decode cX8_digest 209 = .ok (.iconst 1, 1) := by decide +kernel
theorem dX8_digest_210 : decode cX8_digest 210 = .ok (.invokevirtual 173, 3) := by decide +kernel
theorem dX8_digest_213 : decode cX8_digest 213 = .ok (.i2l, 1) := by decide +kernel
theorem dX8_digest_214 : decode cX8_digest 214 = .ok (.invokevirtual 184, 3) := by decide +kernel
theorem dX8_digest_217 : decode cX8_digest 217 = .ok (.iconst 0, 1) := by decide +kernel
theorem dX8_digest_218 : decode cX8_digest 218 = .ok (.istore_n 1, 1) := by decide +kernel
theorem dX8_digest_219 : decode cX8_digest 219 = .ok (.iload_n 1, 1) := by decide +kernel
theorem dX8_digest_220 : decode cX8_digest 220 = .ok (.iconst 3, 1) := by decide +kernel
theorem dX8_digest_221 : decode cX8_digest 221 = .ok (.if_icmp .ge 22, 3) := by decide +kernel
