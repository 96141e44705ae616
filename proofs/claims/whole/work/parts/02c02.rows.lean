set_option maxRecDepth 20000 in
theorem ggX6_image_X4_magnification : GoodIn wsX6_image wsX4_magnification := goodIn_r _ [102, 66, 68, 103, 96, 97, 56, 98, 69, 67, 82, 4, 83, 84, 85, 86, 87, 126, 127, 128, 129] rfl (by decide +kernel)
set_option maxRecDepth 20000 in
theorem gX6_image_X4_magnification : GoodIn wsX6_image (wsV RX6 189 RX4 yX4_magnification wsX4_magnification) := goodIn_app (goodIn_of _ (by decide +kernel)) ggX6_image_X4_magnification
theorem dX6_image_0 : decode cX6_image 0 = .ok (.iload_n 1, 1) := by decide +kernel
theorem dX6_image_1 : decode cX6_image 1 = .ok (.invokestatic 127, 3) := by decide +kernel
theorem dX6_image_4 : decode cX6_image 4 = .ok (.iload_n 2, 1) := by decide +kernel
theorem dX6_image_5 : decode cX6_image 5 = .ok (.iconst 4, 1) := by decide +kernel
theorem dX6_image_6 : decode cX6_image 6 = .ok (.invokestatic 116, 3) := by decide +kernel
theorem dX6_image_9 : decode cX6_image 9 = .ok (.aload_n 0, 1) := by decide +kernel
theorem dX6_image_10 : decode cX6_image 10 = .ok (.iload_n 1, 1) := by decide +kernel
theorem dX6_image_11 : decode cX6_image 11 = .ok (.invokevirtual 163, 3) := by decide +kernel
theorem dX6_image_14 : decode cX6_image 14 = .ok (.iload_n 2, 1) := by decide +kernel
theorem dX6_image_15 : decode cX6_image 15 = .ok (.iconst 4, 1) := by decide +kernel
theorem dX6_image_16 : decode cX6_image 16 = .ok (.if_icmp .ne 14, 3) := by decide +kernel
theorem dX6_image_19 : decode cX6_image 19 = .ok (.aload_n 0, 1) := by decide +kernel
theorem dX6_image_20 : decode cX6_image 20 = .ok (.getfield 53, 3) := by decide +kernel
theorem dX6_image_23 : decode cX6_image 23 = .ok (.invokevirtual 178, 3) := by decide +kernel
theorem dX6_image_26 : decode cX6_image 26 = .ok (.invokestatic 134, 3) := by decide +kernel
theorem dX6_image_29 : decode cX6_image 29 = .ok (.dreturn, 1) := by decide +kernel
theorem dX6_image_30 : decode cX6_image 30 = .ok (.aload_n 0, 1) := by decide +kernel
theorem dX6_image_31 : decode cX6_image 31 = .ok (.getfield 53, 3) := by decide +kernel
theorem dX6_image_34 : decode cX6_image 34 = .ok (.invokevirtual 182, 3) := by decide +kernel
theorem dX6_image_37 : decode cX6_image 37 = .ok (.ifCond .ne 5, 3) := by decide +kernel
theorem dX6_image_40 : decode cX6_image 40 = .ok (.dconst 0, 1) := by decide +kernel
theorem dX6_image_41 : decode cX6_image 41 = .ok (.dreturn, 1) := by decide +kernel
theorem dX6_image_42 : decode cX6_image 42 = .ok (.iload_n 2, 1) := by decide +kernel
theorem dX6_image_43 : decode cX6_image 43 = .ok (.tableswitch 49 0 2 #[25, 27, 38], 25) := by decide +kernel
theorem dX6_image_68 : decode cX6_image 68 = .ok (.dconst 1, 1) := by decide +kernel
theorem dX6_image_69 : decode cX6_image 69 = .ok (.dreturn, 1) := by decide +kernel
theorem dX6_image_70 : decode cX6_image 70 = .ok (.aload_n 0, 1) := by decide +kernel
theorem dX6_image_71 : decode cX6_image 71 = .ok (.getfield 53, 3) := by decide +kernel
theorem dX6_image_74 : decode cX6_image 74 = .ok (.invokevirtual 186, 3) := by decide +kernel
theorem dX6_image_77 : decode cX6_image 77 = .ok (.invokestatic 134, 3) := by decide +kernel
theorem dX6_image_80 : decode cX6_image 80 = .ok (.dreturn, 1) := by decide +kernel
theorem dX6_image_81 : decode cX6_image 81 = .ok (.aload_n 0, 1) := by decide +kernel
theorem dX6_image_82 : decode cX6_image 82 = .ok (.getfield 53, 3) := by decide +kernel
theorem dX6_image_85 : decode cX6_image 85 = .ok (.invokevirtual 189, 3) := by decide +kernel
theorem dX6_image_88 : decode cX6_image 88 = .ok (.invokestatic 134, 3) := by decide +kernel
theorem dX6_image_91 : decode cX6_image 91 = .ok (.dreturn, 1) := by decide +kernel
theorem dX6_image_92 : decode cX6_image 92 = .ok (.aload_n 0, 1) := by decide +kernel
theorem dX6_image_93 : decode cX6_image 93 = .ok (.getfield 53, 3) := by decide +kernel
theorem dX6_image_96 : decode cX6_image 96 = .ok (.invokevirtual 186, 3) := by decide +kernel
theorem dX6_image_99 : decode cX6_image 99 = .ok (.dconst 0, 1) := by decide +kernel
theorem dX6_image_100 : decode cX6_image 100 = .ok (.dcmp .l, 1) := by decide +kernel
theorem dX6_image_101 : decode cX6_image 101 = .ok (.ifCond .le 7, 3) := by decide +kernel
theorem dX6_image_104 : decode cX6_image 104 = .ok (.dconst 1, 1) := by decide +kernel
theorem dX6_image_105 : decode cX6_image 105 = .ok (.goto 4, 3) := by decide +kernel
theorem dX6_image_108 : decode cX6_image 108 = .ok (.dconst 0, 1) := by decide +kernel
theorem dX6_image_109 : decode cX6_image 109 = .ok (.dreturn, 1) := by decide +kernel
set_option maxRecDepth 20000 in
theorem ggX6_many_X6_needWhat : GoodIn wsX6_many wsX6_needWhat := goodIn_ca (goodIn_r _ [14, 15, 16] rfl (by decide +kernel)) (goodIn_sub (fun _ h => List.mem_cons_of_mem _ (List.mem_append_right _ h)) (by decide +kernel))
set_option maxRecDepth 20000 in
theorem gX6_many_X6_needWhat : GoodIn wsX6_many (va_wsS RX6 116 yX6_needWhat wsX6_needWhat) := goodIn_app (goodIn_of _ (by decide +kernel)) ggX6_many_X6_needWhat
set_option maxRecDepth 20000 in
theorem ggX6_many_X6_countLenses : GoodIn wsX6_many wsX6_countLenses := goodIn_r _ [20, 1, 21, 138, 139, 140, 141, 142, 143, 144, 145, 146, 147, 148, 149, 150, 151, 152] rfl (by decide +kernel)
set_option maxRecDepth 20000 in
theorem gX6_many_X6_countLenses : GoodIn wsX6_many (wsV RX6 192 RX6 yX6_countLenses wsX6_countLenses) := goodIn_app (goodIn_of _ (by decide +kernel)) ggX6_many_X6_countLenses
set_option maxRecDepth 20000 in
theorem ggX6_many_X6_lineUp : GoodIn wsX6_many wsX6_lineUp := goodIn_r _ [25, 5, 26, 27, 28, 13, 29, 2, 4, 1, 30, 31, 21, 32, 33, 34, 35, 36, 37, 38, 39, 40, 41, 42, 43, 44, 45, 46, 47, 48, 49, 50, 51, 52, 53, 54, 138, 139, 140, 141, 142, 143, 144, 145, 146, 147, 148, 149, 150, 151, 152, 153, 154, 155, 156, 157, 158, 159] rfl (by decide +kernel)
set_option maxRecDepth 20000 in
theorem gX6_many_X6_lineUp : GoodIn wsX6_many (wsV RX6 120 RX6 yX6_lineUp wsX6_lineUp) := goodIn_app (goodIn_of _ (by decide +kernel)) ggX6_many_X6_lineUp
set_option maxRecDepth 20000 in
theorem ggX6_many_X2_seek : GoodIn wsX6_many wsX2_seek := goodIn_r _ [59, 60, 61, 62, 63, 64, 65, 66, 67, 68, 69, 70, 71, 72, 73, 74, 75, 76, 77, 78, 79, 80, 81, 13, 82, 83, 84, 85, 58, 86, 87, 88, 89, 90, 91, 160, 161, 153, 154, 155, 156, 157, 158, 159, 162, 163, 164, 165] rfl (by decide +kernel)
set_option maxRecDepth 20000 in
theorem gX6_many_X2_seek : GoodIn wsX6_many (wsV RX6 199 RX2 yX2_seek wsX2_seek) := goodIn_app (goodIn_of _ (by decide +kernel)) ggX6_many_X2_seek
set_option maxRecDepth 20000 in
theorem ggX6_many_X5_numberAt : GoodIn wsX6_many wsX5_numberAt := goodIn_r _ [95, 38, 52, 153, 154, 155, 156, 157, 158, 159] rfl (by decide +kernel)
set_option maxRecDepth 20000 in
theorem gX6_many_X5_numberAt : GoodIn wsX6_many (wsV RX6 160 RX5 yX5_numberAt wsX5_numberAt) := goodIn_app (goodIn_of _ (by decide +kernel)) ggX6_many_X5_numberAt
set_option maxRecDepth 20000 in
theorem ggX6_many_X6_sendFan : GoodIn wsX6_many wsX6_sendFan := goodIn_r _ [99, 100, 2, 10, 101, 102, 103, 104, 105, 106, 107, 108, 109, 110, 111, 112, 113, 114, 115, 116, 117, 118, 119, 120, 121, 122, 123, 124, 125, 126, 127, 81, 13, 82, 128, 129, 130, 131, 132, 133, 138, 139, 140, 141, 142, 143, 144, 145, 146, 147, 148, 149, 150, 151, 152, 166, 167, 168, 169, 170, 171, 172, 173, 153, 154, 155, 156, 157, 158, 159] rfl (by decide +kernel)
set_option maxRecDepth 20000 in
theorem gX6_many_X6_sendFan : GoodIn wsX6_many (wsV RX6 206 RX6 yX6_sendFan wsX6_sendFan) := goodIn_app (goodIn_of _ (by decide +kernel)) ggX6_many_X6_sendFan
set_option maxRecDepth 20000 in
theorem ggX6_many_X5_lastPlace : GoodIn wsX6_many wsX5_lastPlace := goodIn_r _ [137, 38, 51, 39, 153, 154, 155, 156, 157, 158, 159] rfl (by decide +kernel)
set_option maxRecDepth 20000 in
theorem gX6_many_X5_lastPlace : GoodIn wsX6_many (wsV RX6 209 RX5 yX5_lastPlace wsX5_lastPlace) := goodIn_app (goodIn_of _ (by decide +kernel)) ggX6_many_X5_lastPlace
theorem dX6_many_0 : decode cX6_many 0 = .ok (.iload_n 1, 1) := by decide +kernel
theorem dX6_many_1 : decode cX6_many 1 = .ok (.bipush 9, 2) := by decide +kernel
theorem dX6_many_3 : decode cX6_many 3 = .ok (.invokestatic 116, 3) := by decide +kernel
theorem dX6_many_6 : decode cX6_many 6 = .ok (.iload_n 1, 1) := by decide +kernel
theorem dX6_many_7 : decode cX6_many 7 = .ok (.tableswitch 145 0 8 #[49, 54, 59, 72, 77, 82, 117, 127, 132], 49) := by decide +kernel
theorem dX6_many_56 : decode cX6_many 56 = .ok (.aload_n 0, 1) := by decide +kernel
theorem dX6_many_57 : decode cX6_many 57 = .ok (.getfield 94, 3) := by decide +kernel
theorem dX6_many_60 : decode cX6_many 60 = .ok (.ireturn, 1) := by decide +kernel
theorem dX6_many_61 : decode cX6_many 61 = .ok (.aload_n 0, 1) := by decide +kernel
theorem dX6_many_62 : decode cX6_many 62 = .ok (.invokevirtual 192, 3) := by decide +kernel
theorem dX6_many_65 : decode cX6_many 65 = .ok (.ireturn, 1) := by decide +kernel
theorem dX6_many_66 : decode cX6_many 66 = .ok (.aload_n 0, 1) := by decide +kernel
theorem dX6_many_67 : decode cX6_many 67 = .ok (.iconst 1, 1) := by decide +kernel
theorem dX6_many_68 : decode cX6_many 68 = .ok (.invokevirtual 120, 3) := by decide +kernel
theorem dX6_many_71 : decode cX6_many 71 = .ok (.aload_n 0, 1) := by decide +kernel
theorem dX6_many_72 : decode cX6_many 72 = .ok (.getfield 32, 3) := by decide +kernel
theorem dX6_many_75 : decode cX6_many 75 = .ok (.getfield 196, 3) := by decide +kernel
theorem dX6_many_78 : decode cX6_many 78 = .ok (.ireturn, 1) := by decide +kernel
theorem dX6_many_79 : decode cX6_many 79 = .ok (.aload_n 0, 1) := by decide +kernel
theorem dX6_many_80 : decode cX6_many 80 = .ok (.getfield 108, 3) := by decide +kernel
theorem dX6_many_83 : decode cX6_many 83 = .ok (.ireturn, 1) := by decide +kernel
theorem dX6_many_84 : decode cX6_many 84 = .ok (.aload_n 0, 1) := by decide +kernel
theorem dX6_many_85 : decode cX6_many 85 = .ok (.getfield 22, 3) := by decide +kernel
theorem dX6_many_88 : decode cX6_many 88 = .ok (.ireturn, 1) := by decide +kernel
theorem dX6_many_89 : decode cX6_many 89 = .ok (.aload_n 0, 1) := by decide +kernel
theorem dX6_many_90 : decode cX6_many 90 = .ok (.iconst 1, 1) := by decide +kernel
theorem dX6_many_91 : decode cX6_many 91 = .ok (.invokevirtual 120, 3) := by decide +kernel
theorem dX6_many_94 : decode cX6_many 94 = .ok (.aload_n 0, 1) := by decide +kernel
theorem dX6_many_95 : decode cX6_many 95 = .ok (.getfield 60, 3) := by decide +kernel
theorem dX6_many_98 : decode cX6_many 98 = .ok (.aload_n 0, 1) := by decide +kernel
theorem dX6_many_99 : decode cX6_many 99 = .ok (.getfield 32, 3) := by decide +kernel
theorem dX6_many_102 : decode cX6_many 102 = .ok (.aload_n 0, 1) := by decide +kernel
theorem dX6_many_103 : decode cX6_many 103 = .ok (.getfield 53, 3) := by decide +kernel
theorem dX6_many_106 : decode cX6_many 106 = .ok (.invokevirtual 199, 3) := by decide +kernel
theorem dX6_many_109 : decode cX6_many 109 = .ok (.aload_n 0, 1) := by decide +kernel
theorem dX6_many_110 : decode cX6_many 110 = .ok (.getfield 32, 3) := by decide +kernel
theorem dX6_many_113 : decode cX6_many 113 = .ok (.aload_n 0, 1) := by decide +kernel
theorem dX6_many_114 : decode cX6_many 114 = .ok (.getfield 60, 3) := by decide +kernel
theorem dX6_many_117 : decode cX6_many 117 = .ok (.getfield 203, 3) := by decide +kernel
theorem dX6_many_120 : decode cX6_many 120 = .ok (.invokevirtual 160, 3) := by decide +kernel
theorem dX6_many_123 : decode cX6_many 123 = .ok (.ireturn, 1) := by decide +kernel
theorem dX6_many_124 : decode cX6_many 124 = .ok (.aload_n 0, 1) := by decide +kernel
theorem dX6_many_125 : decode cX6_many 125 = .ok (.iconst 1, 1) := by decide +kernel
theorem dX6_many_126 : decode cX6_many 126 = .ok (.invokevirtual 120, 3) := by decide +kernel
theorem dX6_many_129 : decode cX6_many 129 = .ok (.aload_n 0, 1) := by decide +kernel
theorem dX6_many_130 : decode cX6_many 130 = .ok (.invokevirtual 206, 3) := by decide +kernel
theorem dX6_many_133 : decode cX6_many 133 = .ok (.ireturn, 1) := by decide +kernel
theorem dX6_many_134 : decode cX6_many 134 = .ok (.aload_n 0, 1) := by decide +kernel
theorem dX6_many_135 : decode cX6_many 135 = .ok (.getfield 113, 3) := by decide +kernel
theorem dX6_many_138 : decode cX6_many 138 = .ok (.ireturn, 1) := by decide +kernel
theorem dX6_many_139 : decode cX6_many 139 = .ok (.aload_n 0, 1) := by decide +kernel
theorem dX6_many_140 : decode cX6_many 140 = .ok (.iconst 1, 1) := by decide +kernel
theorem dX6_many_141 : decode cX6_many 141 = .ok (.invokevirtual 120, 3) := by decide +kernel
theorem dX6_many_144 : decode cX6_many 144 = .ok (.aload_n 0, 1) := by decide +kernel
theorem dX6_many_145 : decode cX6_many 145 = .ok (.getfield 32, 3) := by decide +kernel
theorem dX6_many_148 : decode cX6_many 148 = .ok (.invokevirtual 209, 3) := by decide +kernel
theorem dX6_many_151 : decode cX6_many 151 = .ok (.ireturn, 1) := by decide +kernel
theorem dX6_many_152 : decode cX6_many 152 = .ok (.aload_n 0, 1) := by decide +kernel
theorem dX6_many_153 : decode cX6_many 153 = .ok (.getfield 26, 3) := by decide +kernel
theorem dX6_many_156 : decode cX6_many 156 = .ok (.ireturn, 1) := by decide +kernel
set_option maxRecDepth 20000 in
theorem ggX6_through_X6_needPiece : GoodIn wsX6_through wsX6_needPiece := goodIn_ca (goodIn_r _ [7, 8, 9, 10, 11, 12, 6, 13, 14, 99, 100, 101, 102, 103, 104, 105, 106, 107, 108, 109, 110, 111, 112, 113] rfl (by decide +kernel)) (goodIn_sub (fun _ h => List.mem_cons_of_mem _ (List.mem_append_right _ h)) (by decide +kernel))
set_option maxRecDepth 20000 in
theorem gX6_through_X6_needPiece : GoodIn wsX6_through (wsV RX6 91 RX6 yX6_needPiece wsX6_needPiece) := goodIn_app (goodIn_of _ (by decide +kernel)) ggX6_through_X6_needPiece
set_option maxRecDepth 20000 in
theorem ggX6_through_X6_lineUp : GoodIn wsX6_through wsX6_lineUp := goodIn_r _ [18, 19, 20, 21, 22, 6, 23, 1, 24, 14, 25, 26, 27, 28, 29, 30, 31, 32, 33, 34, 35, 36, 37, 38, 39, 40, 41, 42, 43, 44, 45, 46, 47, 48, 49, 50, 99, 100, 101, 102, 103, 104, 105, 106, 107, 108, 109, 110, 111, 112, 113, 114, 115, 116, 117, 118, 119, 120] rfl (by decide +kernel)
set_option maxRecDepth 20000 in
theorem gX6_through_X6_lineUp : GoodIn wsX6_through (wsV RX6 120 RX6 yX6_lineUp wsX6_lineUp) := goodIn_app (goodIn_of _ (by decide +kernel)) ggX6_through_X6_lineUp
set_option maxRecDepth 20000 in
theorem ggX6_through_X5_positionOf : GoodIn wsX6_through wsX5_positionOf := goodIn_r _ [54, 34, 48, 114, 115, 116, 117, 118, 119, 120] rfl (by decide +kernel)
set_option maxRecDepth 20000 in
theorem gX6_through_X5_positionOf : GoodIn wsX6_through (wsV RX6 123 RX5 yX5_positionOf wsX5_positionOf) := goodIn_app (goodIn_of _ (by decide +kernel)) ggX6_through_X5_positionOf
set_option maxRecDepth 20000 in
theorem ggX6_through_X6_sendFan : GoodIn wsX6_through wsX6_sendFan := goodIn_r _ [58, 2, 1, 59, 60, 61, 62, 63, 64, 65, 66, 67, 68, 69, 70, 71, 72, 73, 74, 75, 76, 77, 78, 79, 80, 81, 82, 83, 84, 85, 86, 87, 6, 88, 89, 90, 91, 92, 93, 94, 99, 100, 101, 102, 103, 104, 105, 106, 107, 108, 109, 110, 111, 112, 113, 121, 122, 123, 124, 125, 126, 127, 128, 114, 115, 116, 117, 118, 119, 120] rfl (by decide +kernel)
set_option maxRecDepth 20000 in
theorem gX6_through_X6_sendFan : GoodIn wsX6_through (wsV RX6 206 RX6 yX6_sendFan wsX6_sendFan) := goodIn_app (goodIn_of _ (by decide +kernel)) ggX6_through_X6_sendFan
set_option maxRecDepth 20000 in
theorem ggX6_through_X1_passed : GoodIn wsX6_through wsX1_passed := goodIn_r _ [98, 68, 121, 122, 123, 124, 125] rfl (by decide +kernel)
set_option maxRecDepth 20000 in
theorem gX6_through_X1_passed : GoodIn wsX6_through (wsV RX6 212 RX1 yX1_passed wsX1_passed) := goodIn_app (goodIn_of _ (by decide +kernel)) ggX6_through_X1_passed
theorem dX6_through_0 : decode cX6_through 0 = .ok (.aload_n 0, 1) := by decide +kernel
theorem dX6_through_1 : decode cX6_through 1 = .ok (.iload_n 1, 1) := by decide +kernel
theorem dX6_through_2 : decode cX6_through 2 = .ok (.invokevirtual 91, 3) := by decide +kernel
theorem dX6_through_5 : decode cX6_through 5 = .ok (.aload_n 0, 1) := by decide +kernel
theorem dX6_through_6 : decode cX6_through 6 = .ok (.iconst 1, 1) := by decide +kernel
theorem dX6_through_7 : decode cX6_through 7 = .ok (.invokevirtual 120, 3) := by decide +kernel
theorem dX6_through_10 : decode cX6_through 10 = .ok (.aload_n 0, 1) := by decide +kernel
theorem dX6_through_11 : decode cX6_through 11 = .ok (.getfield 32, 3) := by decide +kernel
theorem dX6_through_14 : decode cX6_through 14 = .ok (.iload_n 1, 1) := by decide +kernel
theorem dX6_through_15 : decode cX6_through 15 = .ok (.invokevirtual 123, 3) := by decide +kernel
theorem dX6_through_18 : decode cX6_through 18 = .ok (.istore_n 2, 1) := by decide +kernel
theorem dX6_through_19 : decode cX6_through 19 = .ok (.iload_n 2, 1) := by decide +kernel
theorem dX6_through_20 : decode cX6_through 20 = .ok (.iconst (-1), 1) := by decide +kernel
theorem dX6_through_21 : decode cX6_through 21 = .ok (.if_icmp .ne 5, 3) := by decide +kernel
theorem dX6_through_24 : decode cX6_through 24 = .ok (.iconst 0, 1) := by decide +kernel
theorem dX6_through_25 : decode cX6_through 25 = .ok (.ireturn, 1) := by decide +kernel
theorem dX6_through_26 : decode cX6_through 26 = .ok (.aload_n 0, 1) := by decide +kernel
theorem dX6_through_27 : decode cX6_through 27 = .ok (.invokevirtual 206, 3) := by decide +kernel
theorem dX6_through_30 : decode cX6_through 30 = .ok (.pop, 1) := by decide +kernel
theorem dX6_through_31 : decode cX6_through 31 = .ok (.aload_n 0, 1) := by decide +kernel
theorem dX6_through_32 : decode cX6_through 32 = .ok (.getfield 46, 3) := by decide +kernel
theorem dX6_through_35 : decode cX6_through 35 = .ok (.iload_n 2, 1) := by decide +kernel
theorem dX6_through_36 : decode cX6_through 36 = .ok (.invokevirtual 212, 3) := by decide +kernel
theorem dX6_through_39 : decode cX6_through 39 = .ok (.ireturn, 1) := by decide +kernel
set_option maxRecDepth 20000 in
theorem ggX6_rail_X6_lineUp : GoodIn wsX6_rail wsX6_lineUp := goodIn_r _ [11, 12, 13, 14, 15, 10, 16, 4, 17, 18, 19, 20, 21, 22, 23, 24, 25, 26, 27, 28, 29, 30, 31, 32, 33, 34, 35, 36, 37, 38, 39, 40, 41, 42, 43, 44, 240, 241, 242, 243, 244, 245, 246, 247, 248, 249, 250, 251, 252, 253, 254, 255, 256, 257, 258, 259, 260, 261] rfl (by decide +kernel)
set_option maxRecDepth 20000 in
theorem gX6_rail_X6_lineUp : GoodIn wsX6_rail (wsV RX6 120 RX6 yX6_lineUp wsX6_lineUp) := goodIn_app (goodIn_of _ (by decide +kernel)) ggX6_rail_X6_lineUp
set_option maxRecDepth 20000 in
theorem ggX6_rail_J4_init_da8c8 : GoodIn wsX6_rail wsJ4_init_da8c8 := goodIn_r _ [47, 48, 49, 50, 51, 52, 53, 54, 55, 56, 57, 58, 59, 60, 61, 62, 63, 64, 65, 66, 236, 237, 238, 239] rfl (by decide +kernel)
set_option maxRecDepth 20000 in
theorem gX6_rail_J4_init_da8c8 : GoodIn wsX6_rail (wsJ4_init_da8c8) := ggX6_rail_J4_init_da8c8
set_option maxRecDepth 20000 in
theorem ggX6_rail_J4_append_cf468 : GoodIn wsX6_rail wsJ4_append_cf468 := goodIn_r _ [70, 71, 72, 73, 74, 50, 75, 76, 57, 77, 78, 79, 80, 81, 58, 82, 83, 84, 85, 86, 87, 88, 89, 90, 91, 92, 93, 94, 95, 96, 97, 98, 99, 100, 101, 102, 103, 104, 105, 106, 107, 108, 109, 56, 110, 111, 112, 113, 114, 115, 116, 117, 118, 119, 120, 121, 55, 122, 123, 124, 125, 126, 127, 128, 129, 130, 59, 60, 61, 62, 63, 64, 65, 66, 131, 132, 133, 134, 135, 136, 137, 138, 139, 140, 141, 142, 143, 144, 145, 146, 147, 148, 149, 150, 151, 152, 153, 154, 155, 156, 157, 158, 159, 160, 161, 162, 163, 164, 165, 166, 167, 168, 169, 236, 237, 238, 239] rfl (by decide +kernel)
set_option maxRecDepth 20000 in
theorem gX6_rail_J4_append_cf468 : GoodIn wsX6_rail (wsV RX6 218 RJ4 yJ4_append_cf468 wsJ4_append_cf468) := goodIn_app (goodIn_of _ (by decide +kernel)) ggX6_rail_J4_append_cf468
set_option maxRecDepth 20000 in
theorem ggX6_rail_X6_powerOf : GoodIn wsX6_rail wsX6_powerOf := goodIn_r _ [173, 21, 174, 175, 176, 10, 177, 18, 240, 241, 242, 243, 244, 245, 246, 247, 248, 249, 250, 251, 252, 253, 254] rfl (by decide +kernel)
set_option maxRecDepth 20000 in
theorem gX6_rail_X6_powerOf : GoodIn wsX6_rail (wsV RX6 225 RX6 yX6_powerOf wsX6_powerOf) := goodIn_app (goodIn_of _ (by decide +kernel)) ggX6_rail_X6_powerOf
set_option maxRecDepth 20000 in
theorem ggX6_rail_X6_signOf : GoodIn wsX6_rail wsX6_signOf := goodIn_r _ [180] rfl (by decide +kernel)
set_option maxRecDepth 20000 in
theorem gX6_rail_X6_signOf : GoodIn wsX6_rail (va_wsS RX6 228 yX6_signOf wsX6_signOf) := goodIn_app (goodIn_of _ (by decide +kernel)) ggX6_rail_X6_signOf
set_option maxRecDepth 20000 in
theorem ggX6_rail_J4_toString_0e30d : GoodIn wsX6_rail wsJ4_toString_0e30d := goodIn_r _ [184, 185, 186, 145, 187, 188, 189, 190, 191, 192, 193, 53, 54, 194, 195, 196, 197, 198, 199, 200, 201, 50, 202, 57, 203, 204, 205, 206, 207, 3, 208, 209, 73, 210, 211, 76, 212, 118, 119, 120, 121, 55, 58, 213, 214, 102, 215, 104, 105, 106, 107, 108, 109, 216, 217, 218, 56, 110, 111, 94, 112, 113, 114, 115, 116, 219, 220, 221, 222, 2, 223, 224, 61, 225, 226, 227, 228, 137, 138, 139, 140, 141, 142, 143, 144, 146, 147, 148, 149, 150, 151, 229, 230, 231, 155, 156, 157, 63, 64, 65, 66, 232, 233, 234, 235, 262, 263, 264, 265, 236, 237, 238, 239] rfl (by decide +kernel)
set_option maxRecDepth 20000 in
theorem gX6_rail_J4_toString_0e30d : GoodIn wsX6_rail (wsV RX6 232 RJ4 yJ4_toString_0e30d wsJ4_toString_0e30d) := goodIn_app (goodIn_of _ (by decide +kernel)) ggX6_rail_J4_toString_0e30d
theorem dX6_rail_0 : decode cX6_rail 0 = .ok (.aload_n 0, 1) := by decide +kernel
theorem dX6_rail_1 : decode cX6_rail 1 = .ok (.iconst 1, 1) := by decide +kernel
theorem dX6_rail_2 : decode cX6_rail 2 = .ok (.invokevirtual 120, 3) := by decide +kernel
theorem dX6_rail_5 : decode cX6_rail 5 = .ok (.new 215, 3) := by decide +kernel
theorem dX6_rail_8 : decode cX6_rail 8 = .ok (.dup, 1) := by decide +kernel
theorem dX6_rail_9 : decode cX6_rail 9 = .ok (.invokespecial 217, 3) := by decide +kernel
theorem dX6_rail_12 : decode cX6_rail 12 = .ok (.astore_n 1, 1) := by decide +kernel
theorem dX6_rail_13 : decode cX6_rail 13 = .ok (.aload_n 1, 1) := by decide +kernel
theorem dX6_rail_14 : decode cX6_rail 14 = .ok (.bipush 84, 2) := by decide +kernel
theorem dX6_rail_16 : decode cX6_rail 16 = .ok (.invokevirtual 218, 3) := by decide +kernel
theorem dX6_rail_19 : decode cX6_rail 19 = .ok (.pop, 1) := by decide +kernel
theorem dX6_rail_20 : decode cX6_rail 20 = .ok (.iconst 0, 1) := by decide +kernel
theorem dX6_rail_21 : decode cX6_rail 21 = .ok (.istore_n 2, 1) := by decide +kernel
theorem dX6_rail_22 : decode cX6_rail 22 = .ok (.iload_n 2, 1) := by decide +kernel
theorem dX6_rail_23 : decode cX6_rail 23 = .ok (.aload_n 0, 1) := by decide +kernel
theorem dX6_rail_24 : decode cX6_rail 24 = .ok (.getfield 32, 3) := by decide +kernel
theorem dX6_rail_27 : decode cX6_rail 27 = .ok (.getfield 196, 3) := by decide +kernel
theorem dX6_rail_30 : decode cX6_rail 30 = .ok (.if_icmp .ge 30, 3) := by decide +kernel
theorem dX6_rail_33 : decode cX6_rail 33 = .ok (.aload_n 1, 1) := by decide +kernel
theorem dX6_rail_34 : decode cX6_rail 34 = .ok (.aload_n 0, 1) := by decide +kernel
theorem dX6_rail_35 : decode cX6_rail 35 = .ok (.aload_n 0, 1) := by decide +kernel
theorem dX6_rail_36 : decode cX6_rail 36 = .ok (.getfield 32, 3) := by decide +kernel
theorem dX6_rail_39 : decode cX6_rail 39 = .ok (.getfield 222, 3) := by decide +kernel
theorem dX6_rail_42 : decode cX6_rail 42 = .ok (.iload_n 2, 1) := by decide +kernel
theorem dX6_rail_43 : decode cX6_rail 43 = .ok (.iaload, 1) := by decide +kernel
theorem dX6_rail_44 : decode cX6_rail 44 = .ok (.invokevirtual 225, 3) := by decide +kernel
theorem dX6_rail_47 : decode cX6_rail 47 = .ok (.invokestatic 228, 3) := by decide +kernel
theorem dX6_rail_50 : decode cX6_rail 50 = .ok (.invokevirtual 218, 3) := by decide +kernel
theorem dX6_rail_53 : decode cX6_rail 53 = .ok (.pop, 1) := by decide +kernel
theorem dX6_rail_54 : decode cX6_rail 54 = .ok (.iinc 2 1, 3) := by decide +kernel
theorem dX6_rail_57 : decode cX6_rail 57 = .ok (.goto (-35), 3) := by decide +kernel
theorem dX6_rail_60 : decode cX6_rail 60 = .ok (.aload_n 1, 1) := by decide +kernel
theorem dX6_rail_61 : decode cX6_rail 61 = .ok (.bipush 35, 2) := by decide +kernel
theorem dX6_rail_63 : decode cX6_rail 63 = .ok (.invokevirtual 218, 3) := by decide +kernel
theorem dX6_rail_66 : decode cX6_rail 66 = .ok (.pop, 1) := by decide +kernel
theorem dX6_rail_67 : decode cX6_rail 67 = .ok (.aload_n 1, 1) := by decide +kernel
theorem dX6_rail_68 : decode cX6_rail 68 = .ok (.invokevirtual 232, 3) := by decide +kernel
theorem dX6_rail_71 : decode cX6_rail 71 = .ok (.areturn, 1) := by decide +kernel
set_option maxRecDepth 20000 in
theorem ggX6_grasp_X6_lineUp : GoodIn wsX6_grasp wsX6_lineUp := goodIn_r _ [9, 10, 11, 12, 13, 8, 14, 2, 15, 16, 17, 18, 19, 20, 21, 22, 23, 24, 25, 26, 27, 28, 29, 30, 31, 32, 33, 34, 35, 36, 37, 38, 39, 40, 41, 42, 83, 84, 85, 86, 87, 88, 89, 90, 91, 92, 93, 94, 95, 96, 97, 100, 101, 102, 103, 104, 105, 106] rfl (by decide +kernel)
set_option maxRecDepth 20000 in
theorem gX6_grasp_X6_lineUp : GoodIn wsX6_grasp (wsV RX6 120 RX6 yX6_lineUp wsX6_lineUp) := goodIn_app (goodIn_of _ (by decide +kernel)) ggX6_grasp_X6_lineUp
set_option maxRecDepth 20000 in
theorem ggX6_grasp_X2_seek : GoodIn wsX6_grasp wsX2_seek := goodIn_r _ [47, 48, 49, 50, 51, 52, 53, 54, 55, 56, 57, 58, 59, 60, 61, 62, 63, 64, 65, 66, 67, 68, 69, 8, 70, 71, 72, 73, 46, 74, 75, 76, 77, 78, 79, 98, 99, 100, 101, 102, 103, 104, 105, 106, 107, 108, 109, 110] rfl (by decide +kernel)
set_option maxRecDepth 20000 in
theorem gX6_grasp_X2_seek : GoodIn wsX6_grasp (wsV RX6 199 RX2 yX2_seek wsX2_seek) := goodIn_app (goodIn_of _ (by decide +kernel)) ggX6_grasp_X2_seek
set_option maxRecDepth 20000 in
theorem ggX6_grasp_X6_plain : GoodIn wsX6_grasp wsX6_plain := goodIn_r _ [82] rfl (by decide +kernel)
set_option maxRecDepth 20000 in
theorem gX6_grasp_X6_plain : GoodIn wsX6_grasp (va_wsS RX6 134 yX6_plain wsX6_plain) := goodIn_app (goodIn_of _ (by decide +kernel)) ggX6_grasp_X6_plain
theorem dX6_grasp_0 : decode cX6_grasp 0 = .ok (.aload_n 0, 1) := by decide +kernel
theorem dX6_grasp_1 : decode cX6_grasp 1 = .ok (.iconst 1, 1) := by decide +kernel
theorem dX6_grasp_2 : decode cX6_grasp 2 = .ok (.invokevirtual 120, 3) := by decide +kernel
theorem dX6_grasp_5 : decode cX6_grasp 5 = .ok (.aload_n 0, 1) := by decide +kernel
theorem dX6_grasp_6 : decode cX6_grasp 6 = .ok (.getfield 60, 3) := by decide +kernel
theorem dX6_grasp_9 : decode cX6_grasp 9 = .ok (.aload_n 0, 1) := by decide +kernel
theorem dX6_grasp_10 : decode cX6_grasp 10 = .ok (.getfield 32, 3) := by decide +kernel
theorem dX6_grasp_13 : decode cX6_grasp 13 = .ok (.aload_n 0, 1) := by decide +kernel
theorem dX6_grasp_14 : decode cX6_grasp 14 = .ok (.getfield 53, 3) := by decide +kernel
theorem dX6_grasp_17 : decode cX6_grasp 17 = .ok (.invokevirtual 199, 3) := by decide +kernel
theorem dX6_grasp_20 : decode cX6_grasp 20 = .ok (.aload_n 0, 1) := by decide +kernel
theorem dX6_grasp_21 : decode cX6_grasp 21 = .ok (.getfield 60, 3) := by decide +kernel
theorem dX6_grasp_24 : decode cX6_grasp 24 = .ok (.getfield 236, 3) := by decide +kernel
theorem dX6_grasp_27 : decode cX6_grasp 27 = .ok (.invokestatic 134, 3) := by decide +kernel
theorem dX6_grasp_30 : decode cX6_grasp 30 = .ok (.dreturn, 1) := by decide +kernel
set_option maxRecDepth 20000 in
theorem ggX6_blur_X6_needColour : GoodIn wsX6_blur wsX6_needColour := goodIn_ca (goodIn_r _ [5, 6, 7] rfl (by decide +kernel)) (goodIn_sub (fun _ h => List.mem_cons_of_mem _ (List.mem_append_right _ h)) (by decide +kernel))
set_option maxRecDepth 20000 in
theorem gX6_blur_X6_needColour : GoodIn wsX6_blur (va_wsS RX6 127 yX6_needColour wsX6_needColour) := goodIn_app (goodIn_of _ (by decide +kernel)) ggX6_blur_X6_needColour
set_option maxRecDepth 20000 in
theorem ggX6_blur_X6_lineUp : GoodIn wsX6_blur wsX6_lineUp := goodIn_r _ [11, 12, 13, 14, 15, 4, 16, 17, 18, 19, 20, 21, 22, 23, 24, 25, 26, 27, 28, 29, 30, 31, 32, 33, 34, 35, 36, 37, 38, 39, 40, 41, 42, 43, 44, 45, 93, 94, 95, 96, 97, 98, 99, 100, 101, 102, 103, 104, 105, 106, 107, 108, 109, 110, 111, 112, 113, 114] rfl (by decide +kernel)
set_option maxRecDepth 20000 in
theorem gX6_blur_X6_lineUp : GoodIn wsX6_blur (wsV RX6 120 RX6 yX6_lineUp wsX6_lineUp) := goodIn_app (goodIn_of _ (by decide +kernel)) ggX6_blur_X6_lineUp
set_option maxRecDepth 20000 in
theorem ggX6_blur_X6_sendFan : GoodIn wsX6_blur wsX6_sendFan := goodIn_r _ [49, 1, 17, 50, 51, 52, 53, 54, 55, 56, 57, 58, 59, 60, 61, 62, 63, 64, 65, 66, 67, 68, 69, 70, 71, 72, 73, 74, 75, 76, 77, 78, 4, 79, 80, 81, 82, 83, 84, 85, 93, 94, 95, 96, 97, 98, 99, 100, 101, 102, 103, 104, 105, 106, 107, 115, 116, 117, 118, 119, 120, 121, 122, 108, 109, 110, 111, 112, 113, 114] rfl (by decide +kernel)
set_option maxRecDepth 20000 in
theorem gX6_blur_X6_sendFan : GoodIn wsX6_blur (wsV RX6 206 RX6 yX6_sendFan wsX6_sendFan) := goodIn_app (goodIn_of _ (by decide +kernel)) ggX6_blur_X6_sendFan
set_option maxRecDepth 20000 in
theorem ggX6_blur_X1_spread : GoodIn wsX6_blur wsX1_spread := goodIn_r _ [89, 58, 85, 84, 115, 116, 117, 118, 119] rfl (by decide +kernel)
set_option maxRecDepth 20000 in
theorem gX6_blur_X1_spread : GoodIn wsX6_blur (wsV RX6 239 RX1 yX1_spread wsX1_spread) := goodIn_app (goodIn_of _ (by decide +kernel)) ggX6_blur_X1_spread
set_option maxRecDepth 20000 in
theorem ggX6_blur_X6_plain : GoodIn wsX6_blur wsX6_plain := goodIn_r _ [92] rfl (by decide +kernel)
set_option maxRecDepth 20000 in
theorem gX6_blur_X6_plain : GoodIn wsX6_blur (va_wsS RX6 134 yX6_plain wsX6_plain) := goodIn_app (goodIn_of _ (by decide +kernel)) ggX6_blur_X6_plain
theorem dX6_blur_0 : decode cX6_blur 0 = .ok (.iload_n 1, 1) := by decide +kernel
theorem dX6_blur_1 : decode cX6_blur 1 = .ok (.invokestatic 127, 3) := by decide +kernel
theorem dX6_blur_4 : decode cX6_blur 4 = .ok (.aload_n 0, 1) := by decide +kernel
theorem dX6_blur_5 : decode cX6_blur 5 = .ok (.iload_n 1, 1) := by decide +kernel
theorem dX6_blur_6 : decode cX6_blur 6 = .ok (.invokevirtual 120, 3) := by decide +kernel
theorem dX6_blur_9 : decode cX6_blur 9 = .ok (.aload_n 0, 1) := by decide +kernel
theorem dX6_blur_10 : decode cX6_blur 10 = .ok (.invokevirtual 206, 3) := by decide +kernel
theorem dX6_blur_13 : decode cX6_blur 13 = .ok (.pop, 1) := by decide +kernel
theorem dX6_blur_14 : decode cX6_blur 14 = .ok (.aload_n 0, 1) := by decide +kernel
theorem dX6_blur_15 : decode cX6_blur 15 = .ok (.getfield 46, 3) := by decide +kernel
theorem dX6_blur_18 : decode cX6_blur 18 = .ok (.invokevirtual 239, 3) := by decide +kernel
theorem dX6_blur_21 : decode cX6_blur 21 = .ok (.invokestatic 134, 3) := by decide +kernel
theorem dX6_blur_24 : decode cX6_blur 24 = .ok (.dreturn, 1) := by decide +kernel
set_option maxRecDepth 20000 in
theorem ggX6_apart_X6_layTable : GoodIn wsX6_apart wsX6_layTable := goodIn_r _ [6, 1, 7, 8, 9, 10, 5, 11, 12, 13, 14, 15, 16, 17, 18, 19, 20, 21, 22, 23, 24, 25, 26, 27, 28, 29, 30, 31, 32, 33, 34, 35, 36, 37, 38, 39, 40, 41, 42, 43, 44, 45, 46, 47, 48, 49, 50, 51, 52, 53, 54, 55, 56, 57, 58, 59, 60, 61, 62, 63, 64, 65, 66, 67, 68, 69, 87, 88, 89, 90, 91, 92, 93, 94, 95, 96, 97, 98, 99, 100, 101, 102, 103, 104, 105, 106, 107, 108, 109, 110, 111, 112] rfl (by decide +kernel)
set_option maxRecDepth 20000 in
theorem gX6_apart_X6_layTable : GoodIn wsX6_apart (wsV RX6 163 RX6 yX6_layTable wsX6_layTable) := goodIn_app (goodIn_of _ (by decide +kernel)) ggX6_apart_X6_layTable
set_option maxRecDepth 20000 in
theorem ggX6_apart_X4_hasImage : GoodIn wsX6_apart wsX4_hasImage := goodIn_r _ [73, 61, 74, 5, 75, 76, 77, 78, 79, 109, 110, 111, 112] rfl (by decide +kernel)
set_option maxRecDepth 20000 in
theorem gX6_apart_X4_hasImage : GoodIn wsX6_apart (wsV RX6 182 RX4 yX4_hasImage wsX4_hasImage) := goodIn_app (goodIn_of _ (by decide +kernel)) ggX6_apart_X4_hasImage
set_option maxRecDepth 20000 in
theorem ggX6_apart_X4_back : GoodIn wsX6_apart wsX4_back := goodIn_r _ [83, 61, 59, 74, 5, 75, 76, 77, 78, 79, 109, 110, 111, 112] rfl (by decide +kernel)
set_option maxRecDepth 20000 in
theorem gX6_apart_X4_back : GoodIn wsX6_apart (wsV RX6 186 RX4 yX4_back wsX4_back) := goodIn_app (goodIn_of _ (by decide +kernel)) ggX6_apart_X4_back
set_option maxRecDepth 20000 in
theorem ggX6_apart_X6_plain : GoodIn wsX6_apart wsX6_plain := goodIn_r _ [86] rfl (by decide +kernel)
set_option maxRecDepth 20000 in
theorem gX6_apart_X6_plain : GoodIn wsX6_apart (va_wsS RX6 134 yX6_plain wsX6_plain) := goodIn_app (goodIn_of _ (by decide +kernel)) ggX6_apart_X6_plain
theorem dX6_apart_0 : decode cX6_apart 0 = .ok (.aload_n 0, 1) := by decide +kernel
theorem dX6_apart_1 : decode cX6_apart 1 = .ok (.iconst 0, 1) := by decide +kernel
theorem dX6_apart_2 : decode cX6_apart 2 = .ok (.invokevirtual 163, 3) := by decide +kernel
theorem dX6_apart_5 : decode cX6_apart 5 = .ok (.aload_n 0, 1) := by decide +kernel
theorem dX6_apart_6 : decode cX6_apart 6 = .ok (.getfield 53, 3) := by decide +kernel
theorem dX6_apart_9 : decode cX6_apart 9 = .ok (.invokevirtual 182, 3) := by decide +kernel
theorem dX6_apart_12 : decode cX6_apart 12 = .ok (.ifCond .ne 5, 3) := by decide +kernel
theorem dX6_apart_15 : decode cX6_apart 15 = .ok (.dconst 0, 1) := by decide +kernel
theorem dX6_apart_16 : decode cX6_apart 16 = .ok (.dreturn, 1) := by decide +kernel
theorem dX6_apart_17 : decode cX6_apart 17 = .ok (.aload_n 0, 1) := by decide +kernel
theorem dX6_apart_18 : decode cX6_apart 18 = .ok (.getfield 53, 3) := by decide +kernel
theorem dX6_apart_21 : decode cX6_apart 21 = .ok (.invokevirtual 186, 3) := by decide +kernel
theorem dX6_apart_24 : decode cX6_apart 24 = .ok (.dstore_n 1, 1) := by decide +kernel
theorem dX6_apart_25 : decode cX6_apart 25 = .ok (.aload_n 0, 1) := by decide +kernel
theorem dX6_apart_26 : decode cX6_apart 26 = .ok (.iconst 2, 1) := by decide +kernel
theorem dX6_apart_27 : decode cX6_apart 27 = .ok (.invokevirtual 163, 3) := by decide +kernel
theorem dX6_apart_30 : decode cX6_apart 30 = .ok (.aload_n 0, 1) := by decide +kernel
theorem dX6_apart_31 : decode cX6_apart 31 = .ok (.getfield 53, 3) := by decide +kernel
theorem dX6_apart_34 : decode cX6_apart 34 = .ok (.invokevirtual 182, 3) := by decide +kernel
theorem dX6_apart_37 : decode cX6_apart 37 = .ok (.ifCond .ne 5, 3) := by decide +kernel
theorem dX6_apart_40 : decode cX6_apart 40 = .ok (.dconst 0, 1) := by decide +kernel
theorem dX6_apart_41 : decode cX6_apart 41 = .ok (.dreturn, 1) := by decide +kernel
theorem dX6_apart_42 : decode cX6_apart 42 = .ok (.aload_n 0, 1) := by decide +kernel
theorem dX6_apart_43 : decode cX6_apart 43 = .ok (.getfield 53, 3) := by decide +kernel
theorem dX6_apart_46 : decode cX6_apart 46 = .ok (.invokevirtual 186, 3) := by decide +kernel
theorem dX6_apart_49 : decode cX6_apart 49 = .ok (.dload_n 1, 1) := by decide +kernel
theorem dX6_apart_50 : decode cX6_apart 50 = .ok (.dsub, 1) := by decide +kernel
theorem dX6_apart_51 : decode cX6_apart 51 = .ok (.invokestatic 134, 3) := by decide +kernel
theorem dX6_apart_54 : decode cX6_apart 54 = .ok (.dreturn, 1) := by decide +kernel
set_option maxRecDepth 20000 in
theorem ggX6_sharp_X6_needColour : GoodIn wsX6_sharp wsX6_needColour := goodIn_ca (goodIn_r _ [8, 9, 10] rfl (by decide +kernel)) (goodIn_sub (fun _ h => List.mem_cons_of_mem _ (List.mem_append_right _ h)) (by decide +kernel))
set_option maxRecDepth 20000 in
theorem gX6_sharp_X6_needColour : GoodIn wsX6_sharp (va_wsS RX6 127 yX6_needColour wsX6_needColour) := goodIn_app (goodIn_of _ (by decide +kernel)) ggX6_sharp_X6_needColour
set_option maxRecDepth 20000 in
theorem ggX6_sharp_X6_lineUp : GoodIn wsX6_sharp wsX6_lineUp := goodIn_r _ [14, 15, 16, 17, 18, 7, 19, 1, 20, 21, 22, 23, 24, 25, 26, 27, 28, 29, 30, 31, 32, 33, 34, 35, 36, 37, 38, 39, 40, 41, 42, 43, 44, 45, 46, 47, 108, 109, 110, 111, 112, 113, 114, 115, 116, 117, 118, 119, 120, 121, 122, 125, 126, 127, 128, 129, 130, 131] rfl (by decide +kernel)
set_option maxRecDepth 20000 in
theorem gX6_sharp_X6_lineUp : GoodIn wsX6_sharp (wsV RX6 120 RX6 yX6_lineUp wsX6_lineUp) := goodIn_app (goodIn_of _ (by decide +kernel)) ggX6_sharp_X6_lineUp
set_option maxRecDepth 20000 in
theorem ggX6_sharp_X5_lastPlace : GoodIn wsX6_sharp wsX5_lastPlace := goodIn_r _ [51, 31, 44, 32, 125, 126, 127, 128, 129, 130, 131] rfl (by decide +kernel)
set_option maxRecDepth 20000 in
theorem gX6_sharp_X5_lastPlace : GoodIn wsX6_sharp (wsV RX6 209 RX5 yX5_lastPlace wsX5_lastPlace) := goodIn_app (goodIn_of _ (by decide +kernel)) ggX6_sharp_X5_lastPlace
set_option maxRecDepth 20000 in
theorem ggX6_sharp_X0_clear : GoodIn wsX6_sharp wsX0_clear := goodIn_r _ [56, 57, 58, 123, 124] rfl (by decide +kernel)
set_option maxRecDepth 20000 in
theorem gX6_sharp_X0_clear : GoodIn wsX6_sharp (wsV RX6 242 RX0 yX0_clear wsX0_clear) := goodIn_app (goodIn_of _ (by decide +kernel)) ggX6_sharp_X0_clear
set_option maxRecDepth 20000 in
theorem ggX6_sharp_X6_lineUpIf : GoodIn wsX6_sharp wsX6_lineUpIf := goodIn_r _ [19, 1, 20, 21, 22, 23, 24, 25, 26, 27, 28, 29, 30, 31, 32, 33, 34, 35, 7, 36, 37, 38, 39, 40, 41, 42, 43, 44, 45, 46, 47, 108, 109, 110, 111, 112, 113, 114, 115, 116, 117, 118, 119, 120, 121, 122, 125, 126, 127, 128, 129, 130, 131] rfl (by decide +kernel)
set_option maxRecDepth 20000 in
theorem gX6_sharp_X6_lineUpIf : GoodIn wsX6_sharp (wsV RX6 245 RX6 yX6_lineUpIf wsX6_lineUpIf) := goodIn_app (goodIn_of _ (by decide +kernel)) ggX6_sharp_X6_lineUpIf
set_option maxRecDepth 20000 in
theorem ggX6_sharp_X6_sendFan : GoodIn wsX6_sharp wsX6_sendFan := goodIn_r _ [62, 3, 1, 63, 64, 65, 66, 67, 68, 69, 70, 71, 72, 73, 74, 75, 76, 77, 78, 79, 80, 81, 82, 83, 84, 85, 86, 87, 88, 89, 90, 91, 7, 92, 93, 94, 95, 96, 97, 98, 108, 109, 110, 111, 112, 113, 114, 115, 116, 117, 118, 119, 120, 121, 122, 132, 133, 134, 135, 136, 137, 138, 139, 125, 126, 127, 128, 129, 130, 131] rfl (by decide +kernel)
set_option maxRecDepth 20000 in
theorem gX6_sharp_X6_sendFan : GoodIn wsX6_sharp (wsV RX6 206 RX6 yX6_sendFan wsX6_sendFan) := goodIn_app (goodIn_of _ (by decide +kernel)) ggX6_sharp_X6_sendFan
set_option maxRecDepth 20000 in
theorem ggX6_sharp_X0_offer : GoodIn wsX6_sharp wsX0_offer := goodIn_r _ [102, 103, 57, 58, 104, 105, 106, 69, 107, 71, 98, 97, 132, 133, 134, 135, 136, 123, 124] rfl (by decide +kernel)
set_option maxRecDepth 20000 in
theorem gX6_sharp_X0_offer : GoodIn wsX6_sharp (wsV RX6 249 RX0 yX0_offer wsX0_offer) := goodIn_app (goodIn_of _ (by decide +kernel)) ggX6_sharp_X0_offer
theorem dX6_sharp_0 : decode cX6_sharp 0 = .ok (.iload_n 1, 1) := by decide +kernel
theorem dX6_sharp_1 : decode cX6_sharp 1 = .ok (.invokestatic 127, 3) := by decide +kernel
theorem dX6_sharp_4 : decode cX6_sharp 4 = .ok (.aload_n 0, 1) := by decide +kernel
theorem dX6_sharp_5 : decode cX6_sharp 5 = .ok (.iload_n 1, 1) := by decide +kernel
theorem dX6_sharp_6 : decode cX6_sharp 6 = .ok (.invokevirtual 120, 3) := by decide +kernel
theorem dX6_sharp_9 : decode cX6_sharp 9 = .ok (.aload_n 0, 1) := by decide +kernel
theorem dX6_sharp_10 : decode cX6_sharp 10 = .ok (.getfield 32, 3) := by decide +kernel
theorem dX6_sharp_13 : decode cX6_sharp 13 = .ok (.invokevirtual 209, 3) := by decide +kernel
theorem dX6_sharp_16 : decode cX6_sharp 16 = .ok (.iconst 1, 1) := by decide +kernel
theorem dX6_sharp_17 : decode cX6_sharp 17 = .ok (.iadd, 1) := by decide +kernel
theorem dX6_sharp_18 : decode cX6_sharp 18 = .ok (.istore_n 2, 1) := by decide +kernel
theorem dX6_sharp_19 : decode cX6_sharp 19 = .ok (.aload_n 0, 1) := by decide +kernel
theorem dX6_sharp_20 : decode cX6_sharp 20 = .ok (.getfield 67, 3) := by decide +kernel
theorem dX6_sharp_23 : decode cX6_sharp 23 = .ok (.invokevirtual 242, 3) := by decide +kernel
theorem dX6_sharp_26 : decode cX6_sharp 26 = .ok (.iload_n 2, 1) := by decide +kernel
theorem dX6_sharp_27 : decode cX6_sharp 27 = .ok (.istore_n 3, 1) := by decide +kernel
theorem dX6_sharp_28 : decode cX6_sharp 28 = .ok (.iload_n 3, 1) := by decide +kernel
theorem dX6_sharp_29 : decode cX6_sharp 29 = .ok (.bipush 99, 2) := by decide +kernel
theorem dX6_sharp_31 : decode cX6_sharp 31 = .ok (.if_icmp .gt 34, 3) := by decide +kernel
theorem dX6_sharp_34 : decode cX6_sharp 34 = .ok (.aload_n 0, 1) := by decide +kernel
theorem dX6_sharp_35 : decode cX6_sharp 35 = .ok (.iload_n 1, 1) := by decide +kernel
theorem dX6_sharp_36 : decode cX6_sharp 36 = .ok (.iload_n 3, 1) := by decide +kernel
theorem dX6_sharp_37 : decode cX6_sharp 37 = .ok (.iconst (-1), 1) := by decide +kernel
theorem dX6_sharp_38 : decode cX6_sharp 38 = .ok (.iconst (-1), 1) := by decide +kernel
theorem dX6_sharp_39 : decode cX6_sharp 39 = .ok (.invokevirtual 245, 3) := by decide +kernel
theorem dX6_sharp_42 : decode cX6_sharp 42 = .ok (.aload_n 0, 1) := by decide +kernel
theorem dX6_sharp_43 : decode cX6_sharp 43 = .ok (.invokevirtual 206, 3) := by decide +kernel
theorem dX6_sharp_46 : decode cX6_sharp 46 = .ok (.pop, 1) := by decide +kernel
theorem dX6_sharp_47 : decode cX6_sharp 47 = .ok (.aload_n 0, 1) := by decide +kernel
theorem dX6_sharp_48 : decode cX6_sharp 48 = .ok (.getfield 67, 3) := by decide +kernel
theorem dX6_sharp_51 : decode cX6_sharp 51 = .ok (.iload_n 3, 1) := by decide +kernel
theorem dX6_sharp_52 : decode cX6_sharp 52 = .ok (.aload_n 0, 1) := by decide +kernel
theorem dX6_sharp_53 : decode cX6_sharp 53 = .ok (.getfield 46, 3) := by decide +kernel
theorem dX6_sharp_56 : decode cX6_sharp 56 = .ok (.invokevirtual 249, 3) := by decide +kernel
theorem dX6_sharp_59 : decode cX6_sharp 59 = .ok (.iinc 3 1, 3) := by decide +kernel
theorem dX6_sharp_62 : decode cX6_sharp 62 = .ok (.goto (-34), 3) := by decide +kernel
theorem dX6_sharp_65 : decode cX6_sharp 65 = .ok (.aload_n 0, 1) := by decide +kernel
theorem dX6_sharp_66 : decode cX6_sharp 66 = .ok (.getfield 67, 3) := by decide +kernel
theorem dX6_sharp_69 : decode cX6_sharp 69 = .ok (.getfield 253, 3) := by decide +kernel
theorem dX6_sharp_72 : decode cX6_sharp 72 = .ok (.ireturn, 1) := by decide +kernel
set_option maxRecDepth 20000 in
theorem ggX6_best_X6_needPiece : GoodIn wsX6_best wsX6_needPiece := goodIn_ca (goodIn_r _ [10, 11, 12, 13, 14, 15, 9, 16, 17, 114, 115, 116, 117, 118, 119, 120, 121, 122, 123, 124, 125, 126, 127, 128] rfl (by decide +kernel)) (goodIn_sub (fun _ h => List.mem_cons_of_mem _ (List.mem_append_left _ (List.mem_append_right _ h))) (by decide +kernel))
set_option maxRecDepth 20000 in
theorem gX6_best_X6_needPiece : GoodIn wsX6_best (wsV RX6 91 RX6 yX6_needPiece wsX6_needPiece) := goodIn_app (goodIn_of _ (by decide +kernel)) ggX6_best_X6_needPiece
set_option maxRecDepth 20000 in
theorem ggX6_best_X6_needColour : GoodIn wsX6_best wsX6_needColour := goodIn_ca (goodIn_r _ [20, 21, 22] rfl (by decide +kernel)) (goodIn_sub (fun _ h => List.mem_cons_of_mem _ (List.mem_append_right _ h)) (by decide +kernel))
set_option maxRecDepth 20000 in
theorem gX6_best_X6_needColour : GoodIn wsX6_best (va_wsS RX6 127 yX6_needColour wsX6_needColour) := goodIn_app (goodIn_of _ (by decide +kernel)) ggX6_best_X6_needColour
set_option maxRecDepth 20000 in
theorem ggX6_best_X0_clear : GoodIn wsX6_best wsX0_clear := goodIn_r _ [27, 28, 29, 129, 130] rfl (by decide +kernel)
set_option maxRecDepth 20000 in
theorem gX6_best_X0_clear : GoodIn wsX6_best (wsV RX6 242 RX0 yX0_clear wsX0_clear) := goodIn_app (goodIn_of _ (by decide +kernel)) ggX6_best_X0_clear
set_option maxRecDepth 20000 in
theorem ggX6_best_X6_isTakenByOther : GoodIn wsX6_best wsX6_isTakenByOther := goodIn_r _ [33, 17, 34, 114, 115, 116, 117, 118, 119, 120, 121, 122, 123, 124, 125, 126, 127, 128] rfl (by decide +kernel)
set_option maxRecDepth 20000 in
theorem gX6_best_X6_isTakenByOther : GoodIn wsX6_best (wsV RX6 97 RX6 yX6_isTakenByOther wsX6_isTakenByOther) := goodIn_app (goodIn_of _ (by decide +kernel)) ggX6_best_X6_isTakenByOther
set_option maxRecDepth 20000 in
theorem ggX6_best_X6_lineUpIf : GoodIn wsX6_best wsX6_lineUpIf := goodIn_r _ [38, 39, 2, 17, 34, 40, 41, 42, 43, 44, 45, 46, 47, 48, 49, 50, 51, 52, 9, 53, 54, 55, 56, 57, 58, 59, 60, 61, 62, 63, 64, 114, 115, 116, 117, 118, 119, 120, 121, 122, 123, 124, 125, 126, 127, 128, 131, 132, 133, 134, 135, 136, 137] rfl (by decide +kernel)
set_option maxRecDepth 20000 in
theorem gX6_best_X6_lineUpIf : GoodIn wsX6_best (wsV RX6 245 RX6 yX6_lineUpIf wsX6_lineUpIf) := goodIn_app (goodIn_of _ (by decide +kernel)) ggX6_best_X6_lineUpIf
set_option maxRecDepth 20000 in
theorem ggX6_best_X6_sendFan : GoodIn wsX6_best wsX6_sendFan := goodIn_r _ [68, 4, 39, 69, 70, 71, 72, 73, 74, 75, 76, 77, 78, 79, 80, 81, 82, 83, 84, 85, 86, 87, 88, 89, 90, 91, 92, 93, 94, 95, 96, 97, 9, 98, 99, 100, 101, 102, 103, 104, 114, 115, 116, 117, 118, 119, 120, 121, 122, 123, 124, 125, 126, 127, 128, 138, 139, 140, 141, 142, 143, 144, 145, 131, 132, 133, 134, 135, 136, 137] rfl (by decide +kernel)
set_option maxRecDepth 20000 in
theorem gX6_best_X6_sendFan : GoodIn wsX6_best (wsV RX6 206 RX6 yX6_sendFan wsX6_sendFan) := goodIn_app (goodIn_of _ (by decide +kernel)) ggX6_best_X6_sendFan
set_option maxRecDepth 20000 in
theorem ggX6_best_X0_offer : GoodIn wsX6_best wsX0_offer := goodIn_r _ [108, 109, 28, 29, 110, 111, 112, 75, 113, 77, 104, 103, 138, 139, 140, 141, 142, 129, 130] rfl (by decide +kernel)
set_option maxRecDepth 20000 in
theorem gX6_best_X0_offer : GoodIn wsX6_best (wsV RX6 249 RX0 yX0_offer wsX0_offer) := goodIn_app (goodIn_of _ (by decide +kernel)) ggX6_best_X0_offer
theorem dX6_best_0 : decode cX6_best 0 = .ok (.aload_n 0, 1) := by decide +kernel
theorem dX6_best_1 : decode cX6_best 1 = .ok (.iload_n 1, 1) := by decide +kernel
theorem dX6_best_2 : decode cX6_best 2 = .ok (.invokevirtual 91, 3) := by decide +kernel
theorem dX6_best_5 : decode cX6_best 5 = .ok (.iload_n 2, 1) := by decide +kernel
theorem dX6_best_6 : decode cX6_best 6 = .ok (.invokestatic 127, 3) := by decide +kernel
theorem dX6_best_9 : decode cX6_best 9 = .ok (.aload_n 0, 1) := by decide +kernel
theorem dX6_best_10 : decode cX6_best 10 = .ok (.getfield 67, 3) := by decide +kernel
theorem dX6_best_13 : decode cX6_best 13 = .ok (.invokevirtual 242, 3) := by decide +kernel
theorem dX6_best_16 : decode cX6_best 16 = .ok (.aload_n 0, 1) := by decide +kernel
theorem dX6_best_17 : decode cX6_best 17 = .ok (.getfield 108, 3) := by decide +kernel
theorem dX6_best_20 : decode cX6_best 20 = .ok (.iconst 1, 1) := by decide +kernel
theorem dX6_best_21 : decode cX6_best 21 = .ok (.iadd, 1) := by decide +kernel
theorem dX6_best_22 : decode cX6_best 22 = .ok (.istore_n 3, 1) := by decide +kernel
theorem dX6_best_23 : decode cX6_best 23 = .ok (.iload_n 3, 1) := by decide +kernel
theorem dX6_best_24 : decode cX6_best 24 = .ok (.aload_n 0, 1) := by decide +kernel
theorem dX6_best_25 : decode cX6_best 25 = .ok (.getfield 22, 3) := by decide +kernel
theorem dX6_best_28 : decode cX6_best 28 = .ok (.if_icmp .ge 46, 3) := by decide +kernel
theorem dX6_best_31 : decode cX6_best 31 = .ok (.aload_n 0, 1) := by decide +kernel
theorem dX6_best_32 : decode cX6_best 32 = .ok (.iload_n 3, 1) := by decide +kernel
theorem dX6_best_33 : decode cX6_best 33 = .ok (.iload_n 1, 1) := by decide +kernel
theorem dX6_best_34 : decode cX6_best 34 = .ok (.invokevirtual 97, 3) := by decide +kernel
theorem dX6_best_37 : decode cX6_best 37 = .ok (.ifCond .ne 31, 3) := by decide +kernel
theorem dX6_best_40 : decode cX6_best 40 = .ok (.aload_n 0, 1) := by decide +kernel
theorem dX6_best_41 : decode cX6_best 41 = .ok (.iload_n 2, 1) := by decide +kernel
theorem dX6_best_42 : decode cX6_best 42 = .ok (.aload_n 0, 1) := by decide +kernel
theorem dX6_best_43 : decode cX6_best 43 = .ok (.getfield 22, 3) := by decide +kernel
theorem dX6_best_46 : decode cX6_best 46 = .ok (.iload_n 1, 1) := by decide +kernel
theorem dX6_best_47 : decode cX6_best 47 = .ok (.iload_n 3, 1) := by decide +kernel
theorem dX6_best_48 : decode cX6_best 48 = .ok (.invokevirtual 245, 3) := by decide +kernel
theorem dX6_best_51 : decode cX6_best 51 = .ok (.aload_n 0, 1) := by decide +kernel
theorem dX6_best_52 : decode cX6_best 52 = .ok (.invokevirtual 206, 3) := by decide +kernel
theorem dX6_best_55 : decode cX6_best 55 = .ok (.pop, 1) := by decide +kernel
theorem dX6_best_56 : decode cX6_best 56 = .ok (.aload_n 0, 1) := by decide +kernel
theorem dX6_best_57 : decode cX6_best 57 = .ok (.getfield 67, 3) := by decide +kernel
theorem dX6_best_60 : decode cX6_best 60 = .ok (.iload_n 3, 1) := by decide +kernel
theorem dX6_best_61 : decode cX6_best 61 = .ok (.aload_n 0, 1) := by decide +kernel
theorem dX6_best_62 : decode cX6_best 62 = .ok (.getfield 46, 3) := by decide +kernel
theorem dX6_best_65 : decode cX6_best 65 = .ok (.invokevirtual 249, 3) := by decide +kernel
theorem dX6_best_68 : decode cX6_best 68 = .ok (.iinc 3 1, 3) := by decide +kernel
theorem dX6_best_71 : decode cX6_best 71 = .ok (.goto (-48), 3) := by decide +kernel
theorem dX6_best_74 : decode cX6_best 74 = .ok (.aload_n 0, 1) := by decide +kernel
theorem dX6_best_75 : decode cX6_best 75 = .ok (.getfield 67, 3) := by decide +kernel
theorem dX6_best_78 : decode cX6_best 78 = .ok (.getfield 253, 3) := by decide +kernel
theorem dX6_best_81 : decode cX6_best 81 = .ok (.ireturn, 1) := by decide +kernel
set_option maxRecDepth 20000 in
theorem ggX6_without_X6_needPiece : GoodIn wsX6_without wsX6_needPiece := goodIn_ca (goodIn_r _ [6, 7, 8, 9, 10, 11, 5, 12, 13, 87, 88, 89, 90, 91, 92, 93, 94, 95, 96, 97, 98, 99, 100, 101] rfl (by decide +kernel)) (goodIn_sub (fun _ h => List.mem_cons_of_mem _ (List.mem_append_right _ h)) (by decide +kernel))
set_option maxRecDepth 20000 in
theorem gX6_without_X6_needPiece : GoodIn wsX6_without (wsV RX6 91 RX6 yX6_needPiece wsX6_needPiece) := goodIn_app (goodIn_of _ (by decide +kernel)) ggX6_without_X6_needPiece
set_option maxRecDepth 20000 in
theorem ggX6_without_X6_lineUpIf : GoodIn wsX6_without wsX6_lineUpIf := goodIn_r _ [17, 18, 19, 13, 20, 21, 22, 23, 24, 25, 26, 27, 28, 29, 30, 31, 32, 33, 5, 34, 35, 36, 37, 38, 39, 40, 41, 42, 43, 44, 45, 87, 88, 89, 90, 91, 92, 93, 94, 95, 96, 97, 98, 99, 100, 101, 102, 103, 104, 105, 106, 107, 108] rfl (by decide +kernel)
set_option maxRecDepth 20000 in
theorem gX6_without_X6_lineUpIf : GoodIn wsX6_without (wsV RX6 245 RX6 yX6_lineUpIf wsX6_lineUpIf) := goodIn_app (goodIn_of _ (by decide +kernel)) ggX6_without_X6_lineUpIf
set_option maxRecDepth 20000 in
theorem ggX6_without_X6_sendFan : GoodIn wsX6_without wsX6_sendFan := goodIn_r _ [49, 50, 18, 51, 52, 53, 54, 55, 56, 57, 58, 59, 60, 61, 62, 63, 64, 65, 66, 67, 68, 69, 70, 71, 72, 73, 74, 75, 76, 77, 78, 79, 5, 80, 81, 82, 83, 84, 85, 86, 87, 88, 89, 90, 91, 92, 93, 94, 95, 96, 97, 98, 99, 100, 101, 109, 110, 111, 112, 113, 114, 115, 116, 102, 103, 104, 105, 106, 107, 108] rfl (by decide +kernel)
set_option maxRecDepth 20000 in
theorem gX6_without_X6_sendFan : GoodIn wsX6_without (wsV RX6 206 RX6 yX6_sendFan wsX6_sendFan) := goodIn_app (goodIn_of _ (by decide +kernel)) ggX6_without_X6_sendFan
theorem dX6_without_0 : decode cX6_without 0 = .ok (.aload_n 0, 1) := by decide +kernel
theorem dX6_without_1 : decode cX6_without 1 = .ok (.iload_n 1, 1) := by decide +kernel
theorem dX6_without_2 : decode cX6_without 2 = .ok (.invokevirtual 91, 3) := by decide +kernel
theorem dX6_without_5 : decode cX6_without 5 = .ok (.aload_n 0, 1) := by decide +kernel
theorem dX6_without_6 : decode cX6_without 6 = .ok (.iconst 1, 1) := by decide +kernel
theorem dX6_without_7 : decode cX6_without 7 = .ok (.aload_n 0, 1) := by decide +kernel
theorem dX6_without_8 : decode cX6_without 8 = .ok (.getfield 22, 3) := by decide +kernel
theorem dX6_without_11 : decode cX6_without 11 = .ok (.iload_n 1, 1) := by decide +kernel
theorem dX6_without_12 : decode cX6_without 12 = .ok (.iconst (-1), 1) := by decide +kernel
theorem dX6_without_13 : decode cX6_without 13 = .ok (.invokevirtual 245, 3) := by decide +kernel
theorem dX6_without_16 : decode cX6_without 16 = .ok (.aload_n 0, 1) := by decide +kernel
theorem dX6_without_17 : decode cX6_without 17 = .ok (.invokevirtual 206, 3) := by decide +kernel
theorem dX6_without_20 : decode cX6_without 20 = .ok (.ireturn, 1) := by decide +kernel
set_option maxRecDepth 20000 in
theorem ggX6_digest_X6_many : GoodIn wsX6_digest wsX6_many := goodIn_ca (goodIn_r _ [7, 2, 8, 9, 10, 11, 12, 13, 14, 15, 16, 17, 18, 6, 19, 20, 21, 22, 23, 24, 25, 26, 27, 28, 29, 30, 31, 32, 33, 34, 35, 36, 37, 38, 39, 40, 41, 42, 43, 44, 45, 46, 47, 48, 49, 50, 51, 52, 53, 54, 55, 56, 57, 58, 59, 60, 61, 62, 63, 64, 65, 66, 67, 68, 69, 70, 71, 72, 73, 74, 75, 76, 77, 78, 79, 80, 81, 82, 83, 84, 85, 86, 87, 88, 89, 90, 91, 92, 93, 94, 95, 96, 97, 98, 99, 100, 101, 102, 103, 104, 105, 106, 107, 108, 109, 110, 111, 112, 113, 114, 115, 116, 117, 118, 119, 120, 121, 122, 123, 124, 125, 126, 127, 128, 129, 130, 131, 132, 133, 134, 135, 136, 137, 138, 139, 140, 141, 142, 292, 293, 294, 295, 296, 297, 298, 299, 300, 301, 302, 303, 304, 305, 306, 307, 308, 309, 310, 311, 312, 313, 314, 315, 316, 317, 318, 319, 320, 321, 322, 323, 324, 325, 326, 327] rfl (by decide +kernel)) (goodIn_sub (fun _ h => List.mem_cons_of_mem _ (List.mem_append_left _ (List.mem_append_right _ h))) (by decide +kernel))
set_option maxRecDepth 20000 in
theorem gX6_digest_X6_many : GoodIn wsX6_digest (wsV RX6 258 RX6 yX6_many wsX6_many) := goodIn_app (goodIn_of _ (by decide +kernel)) ggX6_digest_X6_many
set_option maxRecDepth 20000 in
theorem ggX6_digest_X6_addWhole : GoodIn wsX6_digest wsX6_addWhole := goodIn_r _ [145, 146] rfl (by decide +kernel)
set_option maxRecDepth 20000 in
theorem gX6_digest_X6_addWhole : GoodIn wsX6_digest (va_wsS RX6 261 yX6_addWhole wsX6_addWhole) := goodIn_app (goodIn_of _ (by decide +kernel)) ggX6_digest_X6_addWhole
set_option maxRecDepth 20000 in
theorem ggX6_digest_X6_addPiece : GoodIn wsX6_digest wsX6_addPiece := goodIn_ca (goodIn_ca (goodIn_r _ [150, 151, 152, 153, 6, 154, 35, 36, 26, 37, 8, 155, 156, 157, 158, 159, 160, 161, 162, 163, 164, 2, 17, 18, 19, 20, 21, 27, 28, 29, 30, 11, 31, 32, 33, 34, 10, 38, 39, 40, 41, 42, 43, 44, 45, 46, 47, 48, 49, 50, 51, 52, 53, 54, 55, 56, 57, 58, 59, 165, 166, 167, 168, 143, 144, 145, 146, 169, 170, 171, 172, 173, 174, 175, 176, 177, 178, 179, 180, 181, 182, 183, 184, 185, 186, 105, 101, 102, 103, 104, 16, 106, 107, 108, 109, 110, 111, 112, 113, 114, 115, 116, 117, 118, 119, 120, 121, 122, 123, 124, 125, 126, 127, 128, 129, 130, 131, 132, 86, 87, 133, 134, 135, 136, 137, 138, 187, 188, 189, 190, 191, 192, 193, 194, 292, 293, 294, 295, 296, 297, 298, 299, 300, 301, 302, 303, 304, 305, 306, 307, 308, 309, 310, 311, 312, 313, 320, 321, 322, 323, 324, 325, 326, 327] rfl (by decide +kernel)) (goodIn_sub (fun _ h => List.mem_cons_of_mem _ (List.mem_append_right _ h)) (by decide +kernel))) (goodIn_sub (fun _ h => List.mem_cons_of_mem _ (List.mem_append_left _ (List.mem_append_right _ h))) (by decide +kernel))
set_option maxRecDepth 20000 in
theorem gX6_digest_X6_addPiece : GoodIn wsX6_digest (wsV RX6 265 RX6 yX6_addPiece wsX6_addPiece) := goodIn_app (goodIn_of _ (by decide +kernel)) ggX6_digest_X6_addPiece
set_option maxRecDepth 20000 in
theorem ggX6_digest_X6_addColour : GoodIn wsX6_digest wsX6_addColour := goodIn_ca (goodIn_r _ [198, 199, 200, 201, 6, 202, 13, 203, 204, 205, 206, 173, 174, 175, 20, 21, 17, 18, 19, 207, 208, 209, 210, 8, 27, 28, 29, 30, 11, 31, 32, 33, 34, 10, 2, 35, 36, 26, 37, 38, 39, 40, 41, 42, 43, 44, 45, 46, 47, 48, 49, 50, 51, 52, 53, 54, 55, 56, 57, 58, 59, 211, 212, 213, 76, 214, 215, 216, 217, 218, 219, 74, 75, 77, 78, 79, 80, 81, 220, 83, 84, 85, 221, 94, 95, 96, 176, 177, 178, 179, 180, 181, 182, 143, 144, 145, 146, 222, 223, 224, 225, 226, 227, 228, 229, 230, 231, 232, 233, 86, 87, 234, 235, 236, 237, 238, 239, 240, 241, 242, 243, 244, 245, 246, 247, 248, 249, 250, 105, 101, 102, 103, 104, 16, 106, 107, 108, 109, 110, 111, 112, 113, 114, 115, 116, 117, 118, 119, 120, 121, 122, 123, 124, 125, 126, 127, 128, 129, 130, 131, 132, 133, 134, 135, 136, 137, 138, 251, 252, 253, 254, 292, 293, 294, 295, 296, 297, 298, 299, 300, 301, 302, 303, 304, 305, 306, 316, 317, 318, 319, 307, 308, 309, 310, 311, 312, 313, 320, 321, 322, 323, 324, 325, 326, 327] rfl (by decide +kernel)) (goodIn_sub (fun _ h => List.mem_cons_of_mem _ (List.mem_append_left _ (List.mem_append_right _ h))) (by decide +kernel))
set_option maxRecDepth 20000 in
theorem gX6_digest_X6_addColour : GoodIn wsX6_digest (wsV RX6 269 RX6 yX6_addColour wsX6_addColour) := goodIn_app (goodIn_of _ (by decide +kernel)) ggX6_digest_X6_addColour
set_option maxRecDepth 20000 in
theorem ggX6_digest_X6_grasp : GoodIn wsX6_digest wsX6_grasp := goodIn_r _ [258, 12, 8, 13, 259, 27, 28, 29, 6, 30, 11, 31, 32, 33, 34, 10, 2, 35, 36, 26, 37, 38, 39, 40, 41, 42, 43, 44, 45, 46, 47, 48, 49, 50, 51, 52, 53, 54, 55, 56, 57, 58, 59, 60, 61, 62, 63, 64, 65, 66, 67, 68, 69, 70, 71, 72, 73, 74, 75, 76, 77, 78, 79, 80, 81, 82, 83, 84, 85, 86, 87, 88, 89, 90, 91, 92, 93, 94, 95, 96, 176, 177, 178, 292, 293, 294, 295, 296, 297, 298, 299, 300, 301, 302, 303, 304, 305, 306, 314, 315, 307, 308, 309, 310, 311, 312, 313, 316, 317, 318, 319] rfl (by decide +kernel)
set_option maxRecDepth 20000 in
theorem gX6_digest_X6_grasp : GoodIn wsX6_digest (wsV RX6 272 RX6 yX6_grasp wsX6_grasp) := goodIn_app (goodIn_of _ (by decide +kernel)) ggX6_digest_X6_grasp
set_option maxRecDepth 20000 in
theorem ggX6_digest_X6_addDouble : GoodIn wsX6_digest wsX6_addDouble := goodIn_r _ [181, 182, 143, 144, 6, 145, 146] rfl (by decide +kernel)
set_option maxRecDepth 20000 in
theorem gX6_digest_X6_addDouble : GoodIn wsX6_digest (va_wsS RX6 275 yX6_addDouble wsX6_addDouble) := goodIn_app (goodIn_of _ (by decide +kernel)) ggX6_digest_X6_addDouble
set_option maxRecDepth 20000 in
theorem ggX6_digest_X6_apart : GoodIn wsX6_digest wsX6_apart := goodIn_r _ [263, 13, 207, 208, 209, 6, 210, 8, 27, 28, 29, 30, 11, 31, 32, 33, 34, 10, 2, 35, 36, 26, 37, 38, 39, 40, 41, 42, 43, 44, 45, 46, 47, 48, 49, 50, 51, 52, 53, 54, 55, 56, 57, 58, 59, 211, 212, 213, 76, 214, 215, 216, 217, 218, 219, 74, 75, 77, 78, 79, 80, 81, 220, 83, 84, 85, 221, 94, 95, 96, 234, 235, 236, 237, 230, 231, 232, 233, 86, 87, 238, 239, 240, 241, 176, 177, 178, 292, 293, 294, 295, 296, 297, 298, 299, 300, 301, 302, 303, 304, 305, 306, 307, 308, 309, 310, 311, 312, 313, 316, 317, 318, 319] rfl (by decide +kernel)
set_option maxRecDepth 20000 in
theorem gX6_digest_X6_apart : GoodIn wsX6_digest (wsV RX6 279 RX6 yX6_apart wsX6_apart) := goodIn_app (goodIn_of _ (by decide +kernel)) ggX6_digest_X6_apart
set_option maxRecDepth 20000 in
theorem ggX6_digest_X6_sharp : GoodIn wsX6_digest wsX6_sharp := goodIn_ca (goodIn_r _ [267, 8, 268, 105, 269, 173, 174, 6, 175, 20, 21, 27, 28, 29, 30, 11, 31, 32, 33, 34, 10, 2, 35, 36, 26, 37, 38, 39, 40, 41, 42, 43, 44, 45, 46, 47, 48, 49, 50, 51, 52, 53, 54, 55, 56, 57, 58, 59, 139, 140, 141, 142, 270, 271, 272, 273, 274, 275, 276, 101, 102, 103, 104, 16, 106, 107, 108, 109, 110, 111, 112, 113, 114, 115, 116, 117, 118, 119, 120, 121, 122, 123, 124, 125, 126, 127, 128, 129, 130, 131, 132, 86, 87, 133, 134, 135, 136, 137, 138, 277, 278, 279, 280, 281, 282, 252, 253, 254, 292, 293, 294, 295, 296, 297, 298, 299, 300, 301, 302, 303, 304, 305, 306, 328, 329, 307, 308, 309, 310, 311, 312, 313, 320, 321, 322, 323, 324, 325, 326, 327] rfl (by decide +kernel)) (goodIn_sub (fun _ h => List.mem_cons_of_mem _ (List.mem_append_left _ (List.mem_append_right _ h))) (by decide +kernel))
set_option maxRecDepth 20000 in
theorem gX6_digest_X6_sharp : GoodIn wsX6_digest (wsV RX6 282 RX6 yX6_sharp wsX6_sharp) := goodIn_app (goodIn_of _ (by decide +kernel)) ggX6_digest_X6_sharp
set_option maxRecDepth 20000 in
theorem ggX6_digest_X6_ray : GoodIn wsX6_digest wsX6_ray := goodIn_ca (goodIn_r _ [286, 20, 21, 287, 8, 106, 51, 288, 289, 290, 173, 174, 6, 175, 17, 18, 19, 27, 28, 29, 30, 11, 31, 32, 33, 34, 10, 2, 35, 36, 26, 37, 38, 39, 40, 41, 42, 43, 44, 45, 46, 47, 48, 49, 50, 52, 53, 54, 55, 56, 57, 58, 59, 291, 120, 121, 122, 123, 124, 125, 126, 127, 128, 129, 130, 131, 132, 86, 87, 176, 177, 178, 97, 98, 99, 100, 292, 293, 294, 295, 296, 297, 298, 299, 300, 301, 302, 303, 304, 305, 306, 325, 326, 327, 307, 308, 309, 310, 311, 312, 313] rfl (by decide +kernel)) (goodIn_sub (fun _ h => List.mem_cons_of_mem _ (List.mem_append_left _ (List.mem_append_right _ h))) (by decide +kernel))
set_option maxRecDepth 20000 in
theorem gX6_digest_X6_ray : GoodIn wsX6_digest (wsV RX6 285 RX6 yX6_ray wsX6_ray) := goodIn_app (goodIn_of _ (by decide +kernel)) ggX6_digest_X6_ray
theorem dX6_digest_0 : decode cX6_digest 0 = .ok (.ldc2_w 256, 3) := by decide +kernel
theorem dX6_digest_3 : decode cX6_digest 3 = .ok (.lstore_n 1, 1) := by decide +kernel
theorem dX6_digest_4 : decode cX6_digest 4 = .ok (.iconst 0, 1) := by decide +kernel
theorem dX6_digest_5 : decode cX6_digest 5 = .ok (.istore_n 3, 1) := by decide +kernel
theorem dX6_digest_6 : decode cX6_digest 6 = .ok (.iload_n 3, 1) := by decide +kernel
theorem dX6_digest_7 : decode cX6_digest 7 = .ok (.bipush 9, 2) := by decide +kernel
theorem dX6_digest_9 : decode cX6_digest 9 = .ok (.if_icmp .gt 20, 3) := by decide +kernel
theorem dX6_digest_12 : decode cX6_digest 12 = .ok (.lload_n 1, 1) := by decide +kernel
theorem dX6_digest_13 : decode cX6_digest 13 = .ok (.aload_n 0, 1) := by decide +kernel
theorem dX6_digest_14 : decode cX6_digest 14 = .ok (.iload_n 3, 1) := by decide +kernel
theorem dX6_digest_15 : decode cX6_digest 15 = .ok (.invokevirtual 258, 3) := by decide +kernel
theorem dX6_digest_18 : decode cX6_digest 18 = .ok (.i2l, 1) := by decide +kernel
theorem dX6_digest_19 : decode cX6_digest 19 = .ok (.invokestatic 261, 3) := by decide +kernel
theorem dX6_digest_22 : decode cX6_digest 22 = .ok (.lstore_n 1, 1) := by decide +kernel
theorem dX6_digest_23 : decode cX6_digest 23 = .ok (.iinc 3 1, 3) := by decide +kernel
theorem dX6_digest_26 : decode cX6_digest 26 = .ok (.goto (-20), 3) := by decide +kernel
theorem dX6_digest_29 : decode cX6_digest 29 = .ok (.iconst 0, 1) := by decide +kernel
theorem dX6_digest_30 : decode cX6_digest 30 = .ok (.istore_n 3, 1) := by decide +kernel
theorem dX6_digest_31 : decode cX6_digest 31 = .ok (.iload_n 3, 1) := by decide +kernel
theorem dX6_digest_32 : decode cX6_digest 32 = .ok (.aload_n 0, 1) := by decide +kernel
theorem dX6_digest_33 : decode cX6_digest 33 = .ok (.getfield 94, 3) := by decide +kernel
theorem dX6_digest_36 : decode cX6_digest 36 = .ok (.if_icmp .ge 16, 3) := by decide +kernel
theorem dX6_digest_39 : decode cX6_digest 39 = .ok (.aload_n 0, 1) := by decide +kernel
theorem dX6_digest_40 : decode cX6_digest 40 = .ok (.lload_n 1, 1) := by decide +kernel
theorem dX6_digest_41 : decode cX6_digest 41 = .ok (.iload_n 3, 1) := by decide +kernel
theorem dX6_digest_42 : decode cX6_digest 42 = .ok (.invokevirtual 265, 3) := by decide +kernel
theorem dX6_digest_45 : decode cX6_digest 45 = .ok (.lstore_n 1, 1) := by decide +kernel
theorem dX6_digest_46 : decode cX6_digest 46 = .ok (.iinc 3 1, 3) := by decide +kernel
theorem dX6_digest_49 : decode cX6_digest 49 = .ok (.goto (-18), 3) := by decide +kernel
theorem dX6_digest_52 : decode cX6_digest 52 = .ok (.iconst 0, 1) := by decide +kernel
theorem dX6_digest_53 : decode cX6_digest 53 = .ok (.istore_n 3, 1) := by decide +kernel
theorem dX6_digest_54 : decode cX6_digest 54 = .ok (.iload_n 3, 1) := by decide +kernel
theorem dX6_digest_55 : decode cX6_digest 55 = .ok (.iconst 2, 1) := by decide +kernel
theorem dX6_digest_56 : decode cX6_digest 56 = .ok (.if_icmp .gt 16, 3) := by decide +kernel
theorem dX6_digest_59 : decode cX6_digest 59 = .ok (.aload_n 0, 1) := by decide +kernel
theorem dX6_digest_60 : decode cX6_digest 60 = .ok (.lload_n 1, 1) := by decide +kernel
theorem dX6_digest_61 : decode cX6_digest 61 = .ok (.iload_n 3, 1) := by decide +kernel
theorem dX6_digest_62 : decode cX6_digest 62 = .ok (.invokevirtual 269, 3) := by decide +kernel
theorem dX6_digest_65 : decode cX6_digest 65 = .ok (.lstore_n 1, 1) := by decide +kernel
theorem dX6_digest_66 : decode cX6_digest 66 = .ok (.iinc 3 1, 3) := by decide +kernel
theorem dX6_digest_69 : decode cX6_digest 69 = .ok (.goto (-15), 3) := by decide +kernel
theorem dX6_digest_72 : decode cX6_digest 72 = .ok (.lload_n 1, 1) := by decide +kernel
theorem dX6_digest_73 : decode cX6_digest 73 = .ok (.aload_n 0, 1) := by decide +kernel
theorem dX6_digest_74 : decode cX6_digest 74 = .ok (.invokevirtual 272, 3) := by decide +kernel
theorem dX6_digest_77 : decode cX6_digest 77 = .ok (.invokestatic 275, 3) := by decide +kernel
theorem dX6_digest_80 : decode cX6_digest 80 = .ok (.lstore_n 1, 1) := by decide +kernel
theorem dX6_digest_81 : decode cX6_digest 81 = .ok (.lload_n 1, 1) := by decide +kernel
theorem dX6_digest_82 : decode cX6_digest 82 = .ok (.aload_n 0, 1) := by decide +kernel
theorem dX6_digest_83 : decode cX6_digest 83 = .ok (.invokevirtual 279, 3) := by decide +kernel
theorem dX6_digest_86 : decode cX6_digest 86 = .ok (.invokestatic 275, 3) := by decide +kernel
theorem dX6_digest_89 : decode cX6_digest 89 = .ok (.lstore_n 1, 1) := by decide +kernel
theorem dX6_digest_90 : decode cX6_digest 90 = .ok (.lload_n 1, 1) := by decide +kernel
theorem dX6_digest_91 : decode cX6_digest 91 = .ok (.aload_n 0, 1) := by decide +kernel
theorem dX6_digest_92 : decode cX6_digest 92 = .ok (.iconst 1, 1) := by decide +kernel
theorem dX6_digest_93 : decode cX6_digest 93 = .ok (.invokevirtual 282, 3) := by decide +kernel
theorem dX6_digest_96 : decode cX6_digest 96 = .ok (.i2l, 1) := by decide +kernel
theorem dX6_digest_97 : decode cX6_digest 97 = .ok (.invokestatic 261, 3) := by decide +kernel
theorem dX6_digest_100 : decode cX6_digest 100 = .ok (.lstore_n 1, 1) := by decide +kernel
theorem dX6_digest_101 : decode cX6_digest 101 = .ok (.iconst 0, 1) := by decide +kernel
theorem dX6_digest_102 : decode cX6_digest 102 = .ok (.istore_n 3, 1) := by decide +kernel
theorem dX6_digest_103 : decode cX6_digest 103 = .ok (.iload_n 3, 1) := by decide +kernel
theorem dX6_digest_104 : decode cX6_digest 104 = .ok (.iconst 2, 1) := by decide +kernel
theorem dX6_digest_105 : decode cX6_digest 105 = .ok (.if_icmp .gt 23, 3) := by decide +kernel
theorem dX6_digest_108 : decode cX6_digest 108 = .ok (.lload_n 1, 1) := by decide +kernel
theorem dX6_digest_109 : decode cX6_digest 109 = .ok (.aload_n 0, 1) := by decide +kernel
theorem dX6_digest_110 : decode cX6_digest 110 = .ok (.iconst 4, 1) := by decide +kernel
theorem dX6_digest_111 : decode cX6_digest 111 = .ok (.bipush 10, 2) := by decide +kernel
theorem dX6_digest_113 : decode cX6_digest 113 = .ok (.iconst 1, 1) := by decide +kernel
theorem dX6_digest_114 : decode cX6_digest 114 = .ok (.iload_n 3, 1) := by decide +kernel
theorem dX6_digest_115 : decode cX6_digest 115 = .ok (.invokevirtual 285, 3) := by decide +kernel
theorem dX6_digest_118 : decode cX6_digest 118 = .ok (.invokestatic 275, 3) := by decide +kernel
theorem dX6_digest_121 : decode cX6_digest 121 = .ok (.lstore_n 1, 1) := by decide +kernel
theorem dX6_digest_122 : decode cX6_digest 122 = .ok (.iinc 3 1, 3) := by decide +kernel
theorem dX6_digest_125 : decode cX6_digest 125 = .ok (.goto (-22), 3) := by decide +kernel
theorem dX6_digest_128 : decode cX6_digest 128 = .ok (.lload_n 1, 1) := by decide +kernel
theorem dX6_digest_129 : decode cX6_digest 129 = .ok (.lreturn, 1) := by decide +kernel
set_option maxRecDepth 20000 in
theorem ggX6_addPiece_X6_ofPiece : GoodIn wsX6_addPiece wsX6_ofPiece := goodIn_ca (goodIn_ca (goodIn_r _ [5, 6, 7, 8, 9, 10, 11, 12, 13, 4, 14, 15, 16, 17, 18, 19, 20, 21, 22, 23, 24, 25, 26, 27, 28, 29, 30, 31, 32, 33, 34, 35, 36, 37, 38, 39, 40, 41, 42, 43, 44, 45, 46, 47, 48, 49, 50, 51, 52, 53, 54, 55, 56, 57, 58, 59, 60, 61, 62, 134, 135, 136, 137, 138, 139, 140, 141, 142, 143, 144, 145, 146, 147, 148, 149, 150, 151, 152, 153, 154, 155] rfl (by decide +kernel)) (goodIn_sub (fun _ h => List.mem_cons_of_mem _ (List.mem_append_left _ (List.mem_append_right _ h))) (by decide +kernel))) (goodIn_sub (fun _ h => List.mem_cons_of_mem _ (List.mem_append_right _ h)) (by decide +kernel))
set_option maxRecDepth 20000 in
theorem gX6_addPiece_X6_ofPiece : GoodIn wsX6_addPiece (wsV RX6 289 RX6 yX6_ofPiece wsX6_ofPiece) := goodIn_app (goodIn_of _ (by decide +kernel)) ggX6_addPiece_X6_ofPiece
set_option maxRecDepth 20000 in
theorem ggX6_addPiece_X6_addWhole : GoodIn wsX6_addPiece wsX6_addWhole := goodIn_r _ [65, 66] rfl (by decide +kernel)
set_option maxRecDepth 20000 in
theorem gX6_addPiece_X6_addWhole : GoodIn wsX6_addPiece (va_wsS RX6 261 yX6_addWhole wsX6_addWhole) := goodIn_app (goodIn_of _ (by decide +kernel)) ggX6_addPiece_X6_addWhole
set_option maxRecDepth 20000 in
theorem ggX6_addPiece_X6_strength : GoodIn wsX6_addPiece wsX6_strength := goodIn_ca (goodIn_ca (goodIn_r _ [70, 8, 9, 11, 12, 13, 4, 14, 15, 16, 17, 18, 19, 20, 21, 71, 72, 73, 25, 26, 45, 46, 47, 48, 49, 50, 74, 75, 76, 134, 135, 136, 137, 138, 139, 140, 141, 142, 143, 144, 145, 146, 147, 148] rfl (by decide +kernel)) (goodIn_sub (fun _ h => List.mem_cons_of_mem _ (List.mem_append_left _ (List.mem_append_right _ h))) (by decide +kernel))) (goodIn_sub (fun _ h => List.mem_cons_of_mem _ (List.mem_append_right _ h)) (by decide +kernel))
set_option maxRecDepth 20000 in
theorem gX6_addPiece_X6_strength : GoodIn wsX6_addPiece (wsV RX6 293 RX6 yX6_strength wsX6_strength) := goodIn_app (goodIn_of _ (by decide +kernel)) ggX6_addPiece_X6_strength
set_option maxRecDepth 20000 in
theorem ggX6_addPiece_X6_addDouble : GoodIn wsX6_addPiece wsX6_addDouble := goodIn_r _ [79, 80, 63, 64, 4, 65, 66] rfl (by decide +kernel)
set_option maxRecDepth 20000 in
theorem gX6_addPiece_X6_addDouble : GoodIn wsX6_addPiece (va_wsS RX6 275 yX6_addDouble wsX6_addDouble) := goodIn_app (goodIn_of _ (by decide +kernel)) ggX6_addPiece_X6_addDouble
set_option maxRecDepth 20000 in
theorem ggX6_addPiece_X6_through : GoodIn wsX6_addPiece wsX6_through := goodIn_ca (goodIn_r _ [84, 10, 85, 11, 12, 13, 4, 14, 15, 16, 17, 18, 19, 20, 21, 27, 28, 29, 30, 31, 32, 33, 34, 35, 36, 6, 7, 8, 9, 37, 38, 39, 40, 41, 42, 43, 44, 45, 46, 47, 48, 49, 50, 51, 52, 53, 54, 55, 56, 57, 58, 59, 60, 61, 62, 86, 87, 88, 89, 90, 91, 92, 93, 94, 95, 96, 97, 98, 99, 100, 101, 102, 103, 104, 105, 106, 107, 108, 109, 110, 111, 112, 113, 114, 115, 116, 117, 118, 119, 120, 121, 122, 123, 124, 125, 126, 127, 128, 129, 134, 135, 136, 137, 138, 139, 140, 141, 142, 143, 144, 145, 146, 147, 148, 149, 150, 151, 152, 153, 154, 155, 156, 157, 158, 159, 160, 161, 162, 163] rfl (by decide +kernel)) (goodIn_sub (fun _ h => List.mem_cons_of_mem _ (List.mem_append_left _ (List.mem_append_right _ h))) (by decide +kernel))
set_option maxRecDepth 20000 in
theorem gX6_addPiece_X6_through : GoodIn wsX6_addPiece (wsV RX6 297 RX6 yX6_through wsX6_through) := goodIn_app (goodIn_of _ (by decide +kernel)) ggX6_addPiece_X6_through
set_option maxRecDepth 20000 in
theorem ggX6_addPiece_X6_without : GoodIn wsX6_addPiece wsX6_without := goodIn_ca (goodIn_r _ [133, 31, 11, 12, 13, 4, 14, 15, 16, 17, 18, 19, 20, 21, 32, 33, 34, 35, 10, 36, 6, 7, 8, 9, 37, 38, 39, 40, 41, 42, 43, 44, 45, 46, 47, 48, 49, 50, 51, 52, 53, 54, 55, 56, 57, 58, 86, 87, 88, 89, 85, 90, 91, 92, 93, 94, 95, 96, 97, 98, 99, 100, 101, 102, 103, 104, 105, 106, 107, 108, 109, 110, 111, 112, 113, 114, 115, 116, 117, 118, 119, 120, 121, 122, 123, 124, 125, 134, 135, 136, 137, 138, 139, 140, 141, 142, 143, 144, 145, 146, 147, 148, 149, 150, 151, 152, 153, 154, 155, 156, 157, 158, 159, 160, 161, 162, 163] rfl (by decide +kernel)) (goodIn_sub (fun _ h => List.mem_cons_of_mem _ (List.mem_append_left _ (List.mem_append_right _ h))) (by decide +kernel))
set_option maxRecDepth 20000 in
theorem gX6_addPiece_X6_without : GoodIn wsX6_addPiece (wsV RX6 300 RX6 yX6_without wsX6_without) := goodIn_app (goodIn_of _ (by decide +kernel)) ggX6_addPiece_X6_without
theorem dX6_addPiece_0 : decode cX6_addPiece 0 = .ok (.lload_n 1, 1) := by decide +kernel
theorem dX6_addPiece_1 : decode cX6_addPiece 1 = .ok (.lstore 4, 2) := by decide +kernel
theorem dX6_addPiece_3 : decode cX6_addPiece 3 = .ok (.iconst 0, 1) := by decide +kernel
theorem dX6_addPiece_4 : decode cX6_addPiece 4 = .ok (.istore 6, 2) := by decide +kernel
theorem dX6_addPiece_6 : decode cX6_addPiece 6 = .ok (.iload 6, 2) := by decide +kernel
theorem dX6_addPiece_8 : decode cX6_addPiece 8 = .ok (.iconst 4, 1) := by decide +kernel
theorem dX6_addPiece_9 : decode cX6_addPiece 9 = .ok (.if_icmp .gt 24, 3) := by decide +kernel
theorem dX6_addPiece_12 : decode cX6_addPiece 12 = .ok (.lload 4, 2) := by decide +kernel
theorem dX6_addPiece_14 : decode cX6_addPiece 14 = .ok (.aload_n 0, 1) := by decide +kernel
theorem dX6_addPiece_15 : decode cX6_addPiece 15 = .ok (.iload_n 3, 1) := by decide +kernel
theorem dX6_addPiece_16 : decode cX6_addPiece 16 = .ok (.iload 6, 2) := by decide +kernel
theorem dX6_addPiece_18 : decode cX6_addPiece 18 = .ok (.invokevirtual 289, 3) := by decide +kernel
theorem dX6_addPiece_21 : decode cX6_addPiece 21 = .ok (.i2l, 1) := by decide +kernel
theorem dX6_addPiece_22 : decode cX6_addPiece 22 = .ok (.invokestatic 261, 3) := by decide +kernel
theorem dX6_addPiece_25 : decode cX6_addPiece 25 = .ok (.lstore 4, 2) := by decide +kernel
theorem dX6_addPiece_27 : decode cX6_addPiece 27 = .ok (.iinc 6 1, 3) := by decide +kernel
theorem dX6_addPiece_30 : decode cX6_addPiece 30 = .ok (.goto (-24), 3) := by decide +kernel
theorem dX6_addPiece_33 : decode cX6_addPiece 33 = .ok (.iconst 0, 1) := by decide +kernel
theorem dX6_addPiece_34 : decode cX6_addPiece 34 = .ok (.istore 6, 2) := by decide +kernel
theorem dX6_addPiece_36 : decode cX6_addPiece 36 = .ok (.iload 6, 2) := by decide +kernel
theorem dX6_addPiece_38 : decode cX6_addPiece 38 = .ok (.iconst 2, 1) := by decide +kernel
theorem dX6_addPiece_39 : decode cX6_addPiece 39 = .ok (.if_icmp .gt 23, 3) := by decide +kernel
theorem dX6_addPiece_42 : decode cX6_addPiece 42 = .ok (.lload 4, 2) := by decide +kernel
theorem dX6_addPiece_44 : decode cX6_addPiece 44 = .ok (.aload_n 0, 1) := by decide +kernel
theorem dX6_addPiece_45 : decode cX6_addPiece 45 = .ok (.iload_n 3, 1) := by decide +kernel
theorem dX6_addPiece_46 : decode cX6_addPiece 46 = .ok (.iload 6, 2) := by decide +kernel
theorem dX6_addPiece_48 : decode cX6_addPiece 48 = .ok (.invokevirtual 293, 3) := by decide +kernel
theorem dX6_addPiece_51 : decode cX6_addPiece 51 = .ok (.invokestatic 275, 3) := by decide +kernel
theorem dX6_addPiece_54 : decode cX6_addPiece 54 = .ok (.lstore 4, 2) := by decide +kernel
theorem dX6_addPiece_56 : decode cX6_addPiece 56 = .ok (.iinc 6 1, 3) := by decide +kernel
theorem dX6_addPiece_59 : decode cX6_addPiece 59 = .ok (.goto (-23), 3) := by decide +kernel
theorem dX6_addPiece_62 : decode cX6_addPiece 62 = .ok (.lload 4, 2) := by decide +kernel
theorem dX6_addPiece_64 : decode cX6_addPiece 64 = .ok (.aload_n 0, 1) := by decide +kernel
theorem dX6_addPiece_65 : decode cX6_addPiece 65 = .ok (.iload_n 3, 1) := by decide +kernel
theorem dX6_addPiece_66 : decode cX6_addPiece 66 = .ok (.invokevirtual 297, 3) := by decide +kernel
theorem dX6_addPiece_69 : decode cX6_addPiece 69 = .ok (.i2l, 1) := by decide +kernel
theorem dX6_addPiece_70 : decode cX6_addPiece 70 = .ok (.invokestatic 261, 3) := by decide +kernel
theorem dX6_addPiece_73 : decode cX6_addPiece 73 = .ok (.lstore 4, 2) := by decide +kernel
theorem dX6_addPiece_75 : decode cX6_addPiece 75 = .ok (.lload 4, 2) := by decide +kernel
theorem dX6_addPiece_77 : decode cX6_addPiece 77 = .ok (.aload_n 0, 1) := by decide +kernel
theorem dX6_addPiece_78 : decode cX6_addPiece 78 = .ok (.iload_n 3, 1) := by decide +kernel
theorem dX6_addPiece_79 : decode cX6_addPiece 79 = .ok (.invokevirtual 300, 3) := by decide +kernel
theorem dX6_addPiece_82 : decode cX6_addPiece 82 = .ok (.i2l, 1) := by decide +kernel
theorem dX6_addPiece_83 : decode cX6_addPiece 83 = .ok (.invokestatic 261, 3) := by decide +kernel
theorem dX6_addPiece_86 : decode cX6_addPiece 86 = .ok (.lreturn, 1) := by decide +kernel
set_option maxRecDepth 20000 in
theorem ggX6_addColour_X6_table : GoodIn wsX6_addColour wsX6_table := goodIn_ca (goodIn_r _ [5, 6, 7, 8, 9, 10, 11, 12, 4, 13, 14, 15, 16, 17, 18, 19, 20, 21, 22, 23, 24, 25, 26, 27, 28, 29, 30, 31, 32, 33, 34, 35, 36, 37, 38, 39, 40, 41, 42, 43, 44, 45, 46, 47, 48, 49, 50, 51, 52, 53, 54, 55, 56, 57, 58, 59, 60, 61, 62, 63, 64, 65, 66, 67, 68, 69, 70, 71, 72, 73, 74, 75, 76, 77, 78, 79, 80, 81, 82, 83, 84, 85, 86, 87, 88, 171, 172, 173, 174, 175, 176, 177, 178, 179, 180, 181, 182, 183, 184, 185, 186, 187, 188, 189, 190, 191, 192, 193, 194, 195, 196] rfl (by decide +kernel)) (goodIn_sub (fun _ h => List.mem_cons_of_mem _ (List.mem_append_right _ h)) (by decide +kernel))
set_option maxRecDepth 20000 in
theorem gX6_addColour_X6_table : GoodIn wsX6_addColour (wsV RX6 303 RX6 yX6_table wsX6_table) := goodIn_app (goodIn_of _ (by decide +kernel)) ggX6_addColour_X6_table
set_option maxRecDepth 20000 in
theorem ggX6_addColour_X6_addDouble : GoodIn wsX6_addColour wsX6_addDouble := goodIn_r _ [91, 92, 93, 94, 4, 95, 96] rfl (by decide +kernel)
set_option maxRecDepth 20000 in
theorem gX6_addColour_X6_addDouble : GoodIn wsX6_addColour (va_wsS RX6 275 yX6_addDouble wsX6_addDouble) := goodIn_app (goodIn_of _ (by decide +kernel)) ggX6_addColour_X6_addDouble
set_option maxRecDepth 20000 in
theorem ggX6_addColour_X6_image : GoodIn wsX6_addColour wsX6_image := goodIn_ca (goodIn_r _ [100, 6, 11, 12, 4, 13, 14, 15, 16, 17, 18, 19, 20, 21, 22, 23, 24, 25, 26, 27, 28, 29, 30, 31, 32, 33, 34, 35, 36, 37, 38, 39, 40, 41, 42, 43, 44, 45, 46, 47, 48, 49, 50, 51, 52, 53, 54, 55, 56, 57, 58, 59, 60, 61, 62, 63, 64, 65, 66, 67, 68, 69, 70, 71, 72, 73, 74, 75, 76, 77, 78, 79, 80, 81, 82, 83, 84, 85, 101, 102, 103, 104, 105, 106, 107, 108, 109, 110, 86, 87, 88, 111, 112, 113, 114, 115, 116, 117, 118, 119, 120, 121, 122, 123, 171, 172, 173, 174, 175, 176, 177, 178, 179, 180, 181, 182, 183, 184, 185, 190, 191, 192, 193, 194, 195, 196, 186, 187, 188, 189] rfl (by decide +kernel)) (goodIn_sub (fun _ h => List.mem_cons_of_mem _ (List.mem_append_right _ h)) (by decide +kernel))
set_option maxRecDepth 20000 in
theorem gX6_addColour_X6_image : GoodIn wsX6_addColour (wsV RX6 306 RX6 yX6_image wsX6_image) := goodIn_app (goodIn_of _ (by decide +kernel)) ggX6_addColour_X6_image
set_option maxRecDepth 20000 in
theorem ggX6_addColour_X6_blur : GoodIn wsX6_addColour wsX6_blur := goodIn_ca (goodIn_r _ [127, 128, 11, 12, 4, 13, 14, 15, 24, 25, 26, 27, 28, 29, 30, 31, 32, 23, 33, 34, 35, 36, 37, 38, 39, 40, 41, 42, 43, 44, 45, 46, 47, 48, 49, 50, 51, 52, 53, 54, 55, 56, 57, 58, 59, 60, 129, 130, 131, 132, 133, 134, 135, 136, 137, 138, 139, 140, 141, 142, 143, 144, 145, 146, 147, 148, 149, 150, 151, 152, 153, 154, 155, 156, 157, 158, 159, 160, 109, 110, 161, 162, 163, 164, 165, 166, 167, 168, 169, 170, 86, 87, 88, 171, 172, 173, 174, 175, 176, 177, 178, 179, 180, 181, 182, 183, 184, 185, 190, 191, 192, 193, 194, 195, 196, 197, 198, 199, 200, 201, 202, 203, 204] rfl (by decide +kernel)) (goodIn_sub (fun _ h => List.mem_cons_of_mem _ (List.mem_append_right _ h)) (by decide +kernel))
set_option maxRecDepth 20000 in
theorem gX6_addColour_X6_blur : GoodIn wsX6_addColour (wsV RX6 309 RX6 yX6_blur wsX6_blur) := goodIn_app (goodIn_of _ (by decide +kernel)) ggX6_addColour_X6_blur
theorem dX6_addColour_0 : decode cX6_addColour 0 = .ok (.lload_n 1, 1) := by decide +kernel
theorem dX6_addColour_1 : decode cX6_addColour 1 = .ok (.lstore 4, 2) := by decide +kernel
theorem dX6_addColour_3 : decode cX6_addColour 3 = .ok (.iconst 0, 1) := by decide +kernel
theorem dX6_addColour_4 : decode cX6_addColour 4 = .ok (.istore 6, 2) := by decide +kernel
theorem dX6_addColour_6 : decode cX6_addColour 6 = .ok (.iload 6, 2) := by decide +kernel
theorem dX6_addColour_8 : decode cX6_addColour 8 = .ok (.iconst 3, 1) := by decide +kernel
theorem dX6_addColour_9 : decode cX6_addColour 9 = .ok (.if_icmp .gt 23, 3) := by decide +kernel
theorem dX6_addColour_12 : decode cX6_addColour 12 = .ok (.lload 4, 2) := by decide +kernel
theorem dX6_addColour_14 : decode cX6_addColour 14 = .ok (.aload_n 0, 1) := by decide +kernel
theorem dX6_addColour_15 : decode cX6_addColour 15 = .ok (.iload_n 3, 1) := by decide +kernel
theorem dX6_addColour_16 : decode cX6_addColour 16 = .ok (.iload 6, 2) := by decide +kernel
theorem dX6_addColour_18 : decode cX6_addColour 18 = .ok (.invokevirtual 303, 3) := by decide +kernel
theorem dX6_addColour_21 : decode cX6_addColour 21 = .ok (.invokestatic 275, 3) := by decide +kernel
theorem dX6_addColour_24 : decode cX6_addColour 24 = .ok (.lstore 4, 2) := by decide +kernel
theorem dX6_addColour_26 : decode cX6_addColour 26 = .ok (.iinc 6 1, 3) := by decide +kernel
theorem dX6_addColour_29 : decode cX6_addColour 29 = .ok (.goto (-23), 3) := by decide +kernel
theorem dX6_addColour_32 : decode cX6_addColour 32 = .ok (.iconst 0, 1) := by decide +kernel
theorem dX6_addColour_33 : decode cX6_addColour 33 = .ok (.istore 6, 2) := by decide +kernel
theorem dX6_addColour_35 : decode cX6_addColour 35 = .ok (.iload 6, 2) := by decide +kernel
theorem dX6_addColour_37 : decode cX6_addColour 37 = .ok (.iconst 4, 1) := by decide +kernel
theorem dX6_addColour_38 : decode cX6_addColour 38 = .ok (.if_icmp .gt 23, 3) := by decide +kernel
theorem dX6_addColour_41 : decode cX6_addColour 41 = .ok (.lload 4, 2) := by decide +kernel
theorem dX6_addColour_43 : decode cX6_addColour 43 = .ok (.aload_n 0, 1) := by decide +kernel
