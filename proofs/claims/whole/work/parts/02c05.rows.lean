theorem dX8_throughNow_31 : decode cX8_throughNow 31 = .ok (.ddiv, 1) := by decide +kernel
theorem dX8_throughNow_32 : decode cX8_throughNow 32 = .ok (.iload_n 3, 1) := by decide +kernel
theorem dX8_throughNow_33 : decode cX8_throughNow 33 = .ok (.i2d, 1) := by decide +kernel
theorem dX8_throughNow_34 : decode cX8_throughNow 34 = .ok (.ldc2_w 91, 3) := by decide +kernel
theorem dX8_throughNow_37 : decode cX8_throughNow 37 = .ok (.ddiv, 1) := by decide +kernel
theorem dX8_throughNow_38 : decode cX8_throughNow 38 = .ok (.iconst 1, 1) := by decide +kernel
theorem dX8_throughNow_39 : decode cX8_throughNow 39 = .ok (.iconst (-1), 1) := by decide +kernel
theorem dX8_throughNow_40 : decode cX8_throughNow 40 = .ok (.invokevirtual 93, 3) := by decide +kernel
theorem dX8_throughNow_43 : decode cX8_throughNow 43 = .ok (.iload_n 2, 1) := by decide +kernel
theorem dX8_throughNow_44 : decode cX8_throughNow 44 = .ok (.aload_n 0, 1) := by decide +kernel
theorem dX8_throughNow_45 : decode cX8_throughNow 45 = .ok (.getfield 73, 3) := by decide +kernel
theorem dX8_throughNow_48 : decode cX8_throughNow 48 = .ok (.iconst (-1), 1) := by decide +kernel
theorem dX8_throughNow_49 : decode cX8_throughNow 49 = .ok (.if_icmp .eq 21, 3) := by decide +kernel
theorem dX8_throughNow_52 : decode cX8_throughNow 52 = .ok (.aload_n 0, 1) := by decide +kernel
theorem dX8_throughNow_53 : decode cX8_throughNow 53 = .ok (.getfield 9, 3) := by decide +kernel
theorem dX8_throughNow_56 : decode cX8_throughNow 56 = .ok (.aload_n 0, 1) := by decide +kernel
theorem dX8_throughNow_57 : decode cX8_throughNow 57 = .ok (.getfield 73, 3) := by decide +kernel
theorem dX8_throughNow_60 : decode cX8_throughNow 60 = .ok (.iaload, 1) := by decide +kernel
theorem dX8_throughNow_61 : decode cX8_throughNow 61 = .ok (.aload_n 0, 1) := by decide +kernel
theorem dX8_throughNow_62 : decode cX8_throughNow 62 = .ok (.getfield 9, 3) := by decide +kernel
theorem dX8_throughNow_65 : decode cX8_throughNow 65 = .ok (.iload_n 1, 1) := by decide +kernel
theorem dX8_throughNow_66 : decode cX8_throughNow 66 = .ok (.iaload, 1) := by decide +kernel
theorem dX8_throughNow_67 : decode cX8_throughNow 67 = .ok (.if_icmp .le 7, 3) := by decide +kernel
theorem dX8_throughNow_70 : decode cX8_throughNow 70 = .ok (.iconst 1, 1) := by decide +kernel
theorem dX8_throughNow_71 : decode cX8_throughNow 71 = .ok (.goto 4, 3) := by decide +kernel
theorem dX8_throughNow_74 : decode cX8_throughNow 74 = .ok (.iconst 0, 1) := by decide +kernel
theorem dX8_throughNow_75 : decode cX8_throughNow 75 = .ok (.iadd, 1) := by decide +kernel
theorem dX8_throughNow_76 : decode cX8_throughNow 76 = .ok (.istore_n 2, 1) := by decide +kernel
theorem dX8_throughNow_77 : decode cX8_throughNow 77 = .ok (.iinc 3 1, 3) := by decide +kernel
theorem dX8_throughNow_80 : decode cX8_throughNow 80 = .ok (.goto (-64), 3) := by decide +kernel
theorem dX8_throughNow_83 : decode cX8_throughNow 83 = .ok (.iload_n 2, 1) := by decide +kernel
theorem dX8_throughNow_84 : decode cX8_throughNow 84 = .ok (.ireturn, 1) := by decide +kernel
set_option maxRecDepth 20000 in
theorem ggX8_tableNow_X8_next : GoodIn wsX8_tableNow wsX8_next := goodIn_r _ [8, 9, 2, 10, 22, 23, 24, 25, 26, 27, 28, 29, 30, 31, 32, 33, 34, 35] rfl (by decide +kernel)
set_option maxRecDepth 20000 in
theorem gX8_tableNow_X8_next : GoodIn wsX8_tableNow (wsV RX8 76 RX8 yX8_next wsX8_next) := goodIn_app (goodIn_of _ (by decide +kernel)) ggX8_tableNow_X8_next
set_option maxRecDepth 20000 in
theorem ggX8_tableNow_X8_strengthNow : GoodIn wsX8_tableNow wsX8_strengthNow := goodIn_r _ [14, 3, 15, 16, 17, 18, 22, 23, 24, 25, 26, 27, 28, 29, 30, 31, 32, 33, 34, 35] rfl (by decide +kernel)
set_option maxRecDepth 20000 in
theorem gX8_tableNow_X8_strengthNow : GoodIn wsX8_tableNow (wsV RX8 85 RX8 yX8_strengthNow wsX8_strengthNow) := goodIn_app (goodIn_of _ (by decide +kernel)) ggX8_tableNow_X8_strengthNow
set_option maxRecDepth 20000 in
theorem ggX8_tableNow_X8_plain : GoodIn wsX8_tableNow wsX8_plain := goodIn_r _ [21] rfl (by decide +kernel)
set_option maxRecDepth 20000 in
theorem gX8_tableNow_X8_plain : GoodIn wsX8_tableNow (va_wsS RX8 104 yX8_plain wsX8_plain) := goodIn_app (goodIn_of _ (by decide +kernel)) ggX8_tableNow_X8_plain
theorem dX8_tableNow_0 : decode cX8_tableNow 0 = .ok (.dconst 1, 1) := by decide +kernel
theorem dX8_tableNow_1 : decode cX8_tableNow 1 = .ok (.dstore_n 3, 1) := by decide +kernel
theorem dX8_tableNow_2 : decode cX8_tableNow 2 = .ok (.dconst 0, 1) := by decide +kernel
theorem dX8_tableNow_3 : decode cX8_tableNow 3 = .ok (.dstore 5, 2) := by decide +kernel
theorem dX8_tableNow_5 : decode cX8_tableNow 5 = .ok (.dconst 0, 1) := by decide +kernel
theorem dX8_tableNow_6 : decode cX8_tableNow 6 = .ok (.dstore 7, 2) := by decide +kernel
theorem dX8_tableNow_8 : decode cX8_tableNow 8 = .ok (.dconst 1, 1) := by decide +kernel
theorem dX8_tableNow_9 : decode cX8_tableNow 9 = .ok (.dstore 9, 2) := by decide +kernel
theorem dX8_tableNow_11 : decode cX8_tableNow 11 = .ok (.aload_n 0, 1) := by decide +kernel
theorem dX8_tableNow_12 : decode cX8_tableNow 12 = .ok (.getfield 60, 3) := by decide +kernel
theorem dX8_tableNow_15 : decode cX8_tableNow 15 = .ok (.istore 11, 2) := by decide +kernel
theorem dX8_tableNow_17 : decode cX8_tableNow 17 = .ok (.aload_n 0, 1) := by decide +kernel
theorem dX8_tableNow_18 : decode cX8_tableNow 18 = .ok (.iload 11, 2) := by decide +kernel
theorem dX8_tableNow_20 : decode cX8_tableNow 20 = .ok (.invokevirtual 76, 3) := by decide +kernel
theorem dX8_tableNow_23 : decode cX8_tableNow 23 = .ok (.istore 12, 2) := by decide +kernel
theorem dX8_tableNow_25 : decode cX8_tableNow 25 = .ok (.iload 12, 2) := by decide +kernel
theorem dX8_tableNow_27 : decode cX8_tableNow 27 = .ok (.iconst (-1), 1) := by decide +kernel
theorem dX8_tableNow_28 : decode cX8_tableNow 28 = .ok (.if_icmp .eq 96, 3) := by decide +kernel
theorem dX8_tableNow_31 : decode cX8_tableNow 31 = .ok (.aload_n 0, 1) := by decide +kernel
theorem dX8_tableNow_32 : decode cX8_tableNow 32 = .ok (.getfield 9, 3) := by decide +kernel
theorem dX8_tableNow_35 : decode cX8_tableNow 35 = .ok (.iload 12, 2) := by decide +kernel
theorem dX8_tableNow_37 : decode cX8_tableNow 37 = .ok (.iaload, 1) := by decide +kernel
theorem dX8_tableNow_38 : decode cX8_tableNow 38 = .ok (.iload 11, 2) := by decide +kernel
theorem dX8_tableNow_40 : decode cX8_tableNow 40 = .ok (.isub, 1) := by decide +kernel
theorem dX8_tableNow_41 : decode cX8_tableNow 41 = .ok (.istore 13, 2) := by decide +kernel
theorem dX8_tableNow_43 : decode cX8_tableNow 43 = .ok (.aload_n 0, 1) := by decide +kernel
theorem dX8_tableNow_44 : decode cX8_tableNow 44 = .ok (.getfield 9, 3) := by decide +kernel
theorem dX8_tableNow_47 : decode cX8_tableNow 47 = .ok (.iload 12, 2) := by decide +kernel
theorem dX8_tableNow_49 : decode cX8_tableNow 49 = .ok (.iaload, 1) := by decide +kernel
theorem dX8_tableNow_50 : decode cX8_tableNow 50 = .ok (.istore 11, 2) := by decide +kernel
theorem dX8_tableNow_52 : decode cX8_tableNow 52 = .ok (.dload_n 3, 1) := by decide +kernel
theorem dX8_tableNow_53 : decode cX8_tableNow 53 = .ok (.dload 7, 2) := by decide +kernel
theorem dX8_tableNow_55 : decode cX8_tableNow 55 = .ok (.iload 13, 2) := by decide +kernel
theorem dX8_tableNow_57 : decode cX8_tableNow 57 = .ok (.i2d, 1) := by decide +kernel
theorem dX8_tableNow_58 : decode cX8_tableNow 58 = .ok (.dmul, 1) := by decide +kernel
theorem dX8_tableNow_59 : decode cX8_tableNow 59 = .ok (.dadd, 1) := by decide +kernel
theorem dX8_tableNow_60 : decode cX8_tableNow 60 = .ok (.dstore_n 3, 1) := by decide +kernel
theorem dX8_tableNow_61 : decode cX8_tableNow 61 = .ok (.dload 5, 2) := by decide +kernel
theorem dX8_tableNow_63 : decode cX8_tableNow 63 = .ok (.dload 9, 2) := by decide +kernel
theorem dX8_tableNow_65 : decode cX8_tableNow 65 = .ok (.iload 13, 2) := by decide +kernel
theorem dX8_tableNow_67 : decode cX8_tableNow 67 = .ok (.i2d, 1) := by decide +kernel
theorem dX8_tableNow_68 : decode cX8_tableNow 68 = .ok (.dmul, 1) := by decide +kernel
theorem dX8_tableNow_69 : decode cX8_tableNow 69 = .ok (.dadd, 1) := by decide +kernel
theorem dX8_tableNow_70 : decode cX8_tableNow 70 = .ok (.dstore 5, 2) := by decide +kernel
theorem dX8_tableNow_72 : decode cX8_tableNow 72 = .ok (.aload_n 0, 1) := by decide +kernel
theorem dX8_tableNow_73 : decode cX8_tableNow 73 = .ok (.getfield 16, 3) := by decide +kernel
theorem dX8_tableNow_76 : decode cX8_tableNow 76 = .ok (.iload 12, 2) := by decide +kernel
theorem dX8_tableNow_78 : decode cX8_tableNow 78 = .ok (.iaload, 1) := by decide +kernel
theorem dX8_tableNow_79 : decode cX8_tableNow 79 = .ok (.ifCond .ne 6, 3) := by decide +kernel
theorem dX8_tableNow_82 : decode cX8_tableNow 82 = .ok (.goto 31, 3) := by decide +kernel
theorem dX8_tableNow_85 : decode cX8_tableNow 85 = .ok (.aload_n 0, 1) := by decide +kernel
theorem dX8_tableNow_86 : decode cX8_tableNow 86 = .ok (.iload 12, 2) := by decide +kernel
theorem dX8_tableNow_88 : decode cX8_tableNow 88 = .ok (.iload_n 1, 1) := by decide +kernel
theorem dX8_tableNow_89 : decode cX8_tableNow 89 = .ok (.invokevirtual 85, 3) := by decide +kernel
theorem dX8_tableNow_92 : decode cX8_tableNow 92 = .ok (.dstore 14, 2) := by decide +kernel
theorem dX8_tableNow_94 : decode cX8_tableNow 94 = .ok (.dload 7, 2) := by decide +kernel
theorem dX8_tableNow_96 : decode cX8_tableNow 96 = .ok (.dload_n 3, 1) := by decide +kernel
theorem dX8_tableNow_97 : decode cX8_tableNow 97 = .ok (.dload 14, 2) := by decide +kernel
theorem dX8_tableNow_99 : decode cX8_tableNow 99 = .ok (.dmul, 1) := by decide +kernel
theorem dX8_tableNow_100 : decode cX8_tableNow 100 = .ok (.dsub, 1) := by decide +kernel
theorem dX8_tableNow_101 : decode cX8_tableNow 101 = .ok (.dstore 7, 2) := by decide +kernel
theorem dX8_tableNow_103 : decode cX8_tableNow 103 = .ok (.dload 9, 2) := by decide +kernel
theorem dX8_tableNow_105 : decode cX8_tableNow 105 = .ok (.dload 5, 2) := by decide +kernel
theorem dX8_tableNow_107 : decode cX8_tableNow 107 = .ok (.dload 14, 2) := by decide +kernel
theorem dX8_tableNow_109 : decode cX8_tableNow 109 = .ok (.dmul, 1) := by decide +kernel
theorem dX8_tableNow_110 : decode cX8_tableNow 110 = .ok (.dsub, 1) := by decide +kernel
theorem dX8_tableNow_111 : decode cX8_tableNow 111 = .ok (.dstore 9, 2) := by decide +kernel
theorem dX8_tableNow_113 : decode cX8_tableNow 113 = .ok (.aload_n 0, 1) := by decide +kernel
theorem dX8_tableNow_114 : decode cX8_tableNow 114 = .ok (.iload 11, 2) := by decide +kernel
theorem dX8_tableNow_116 : decode cX8_tableNow 116 = .ok (.invokevirtual 76, 3) := by decide +kernel
theorem dX8_tableNow_119 : decode cX8_tableNow 119 = .ok (.istore 12, 2) := by decide +kernel
theorem dX8_tableNow_121 : decode cX8_tableNow 121 = .ok (.goto (-96), 3) := by decide +kernel
theorem dX8_tableNow_124 : decode cX8_tableNow 124 = .ok (.iload_n 2, 1) := by decide +kernel
theorem dX8_tableNow_125 : decode cX8_tableNow 125 = .ok (.ifCond .ne 7, 3) := by decide +kernel
theorem dX8_tableNow_128 : decode cX8_tableNow 128 = .ok (.dload_n 3, 1) := by decide +kernel
theorem dX8_tableNow_129 : decode cX8_tableNow 129 = .ok (.goto 25, 3) := by decide +kernel
theorem dX8_tableNow_132 : decode cX8_tableNow 132 = .ok (.iload_n 2, 1) := by decide +kernel
theorem dX8_tableNow_133 : decode cX8_tableNow 133 = .ok (.iconst 1, 1) := by decide +kernel
theorem dX8_tableNow_134 : decode cX8_tableNow 134 = .ok (.if_icmp .ne 8, 3) := by decide +kernel
theorem dX8_tableNow_137 : decode cX8_tableNow 137 = .ok (.dload 5, 2) := by decide +kernel
theorem dX8_tableNow_139 : decode cX8_tableNow 139 = .ok (.goto 15, 3) := by decide +kernel
theorem dX8_tableNow_142 : decode cX8_tableNow 142 = .ok (.iload_n 2, 1) := by decide +kernel
theorem dX8_tableNow_143 : decode cX8_tableNow 143 = .ok (.iconst 2, 1) := by decide +kernel
theorem dX8_tableNow_144 : decode cX8_tableNow 144 = .ok (.if_icmp .ne 8, 3) := by decide +kernel
theorem dX8_tableNow_147 : decode cX8_tableNow 147 = .ok (.dload 7, 2) := by decide +kernel
theorem dX8_tableNow_149 : decode cX8_tableNow 149 = .ok (.goto 5, 3) := by decide +kernel
theorem dX8_tableNow_152 : decode cX8_tableNow 152 = .ok (.dload 9, 2) := by decide +kernel
theorem dX8_tableNow_154 : decode cX8_tableNow 154 = .ok (.invokestatic 104, 3) := by decide +kernel
theorem dX8_tableNow_157 : decode cX8_tableNow 157 = .ok (.dreturn, 1) := by decide +kernel
set_option maxRecDepth 20000 in
theorem ggX8_hasImage_X8_tableNow : GoodIn wsX8_hasImage wsX8_tableNow := goodIn_r _ [6, 7, 8, 9, 10, 11, 12, 5, 13, 14, 15, 16, 17, 18, 19, 20, 21, 22, 23, 24, 25, 26, 39, 40, 41, 42, 43, 44, 45, 46, 47, 48, 49, 50, 51, 52] rfl (by decide +kernel)
set_option maxRecDepth 20000 in
theorem gX8_hasImage_X8_tableNow : GoodIn wsX8_hasImage (wsV RX8 112 RX8 yX8_tableNow wsX8_tableNow) := goodIn_app (goodIn_of _ (by decide +kernel)) ggX8_hasImage_X8_tableNow
set_option maxRecDepth 20000 in
theorem ggX8_hasImage_J9_abs_294c1 : GoodIn wsX8_hasImage wsJ9_abs_294c1 := goodIn_r _ [30, 31, 32, 33, 34, 35, 36, 37, 38] rfl (by decide +kernel)
set_option maxRecDepth 20000 in
theorem gX8_hasImage_J9_abs_294c1 : GoodIn wsX8_hasImage (va_wsS RX8 79 yJ9_abs_294c1 wsJ9_abs_294c1) := goodIn_app (goodIn_of _ (by decide +kernel)) ggX8_hasImage_J9_abs_294c1
theorem dX8_hasImage_0 : decode cX8_hasImage 0 = .ok (.aload_n 0, 1) := by decide +kernel
theorem dX8_hasImage_1 : decode cX8_hasImage 1 = .ok (.iload_n 1, 1) := by decide +kernel
theorem dX8_hasImage_2 : decode cX8_hasImage 2 = .ok (.iconst 3, 1) := by decide +kernel
theorem dX8_hasImage_3 : decode cX8_hasImage 3 = .ok (.invokevirtual 112, 3) := by decide +kernel
theorem dX8_hasImage_6 : decode cX8_hasImage 6 = .ok (.invokestatic 79, 3) := by decide +kernel
theorem dX8_hasImage_9 : decode cX8_hasImage 9 = .ok (.ldc2_w 115, 3) := by decide +kernel
theorem dX8_hasImage_12 : decode cX8_hasImage 12 = .ok (.dcmp .l, 1) := by decide +kernel
theorem dX8_hasImage_13 : decode cX8_hasImage 13 = .ok (.ifCond .lt 7, 3) := by decide +kernel
theorem dX8_hasImage_16 : decode cX8_hasImage 16 = .ok (.iconst 1, 1) := by decide +kernel
theorem dX8_hasImage_17 : decode cX8_hasImage 17 = .ok (.goto 4, 3) := by decide +kernel
theorem dX8_hasImage_20 : decode cX8_hasImage 20 = .ok (.iconst 0, 1) := by decide +kernel
theorem dX8_hasImage_21 : decode cX8_hasImage 21 = .ok (.ireturn, 1) := by decide +kernel
set_option maxRecDepth 20000 in
theorem ggX8_back_X8_tableNow : GoodIn wsX8_back wsX8_tableNow := goodIn_r _ [5, 6, 7, 8, 9, 10, 11, 4, 12, 13, 14, 15, 16, 17, 18, 19, 20, 21, 22, 23, 24, 25, 26, 27, 28, 29, 30, 31, 32, 33, 34, 35, 36, 37, 38, 39] rfl (by decide +kernel)
set_option maxRecDepth 20000 in
theorem gX8_back_X8_tableNow : GoodIn wsX8_back (wsV RX8 112 RX8 yX8_tableNow wsX8_tableNow) := goodIn_app (goodIn_of _ (by decide +kernel)) ggX8_back_X8_tableNow
set_option maxRecDepth 20000 in
theorem ggX8_back_X8_plain : GoodIn wsX8_back wsX8_plain := goodIn_r _ [25] rfl (by decide +kernel)
set_option maxRecDepth 20000 in
theorem gX8_back_X8_plain : GoodIn wsX8_back (va_wsS RX8 104 yX8_plain wsX8_plain) := goodIn_app (goodIn_of _ (by decide +kernel)) ggX8_back_X8_plain
theorem dX8_back_0 : decode cX8_back 0 = .ok (.aload_n 0, 1) := by decide +kernel
theorem dX8_back_1 : decode cX8_back 1 = .ok (.iload_n 1, 1) := by decide +kernel
theorem dX8_back_2 : decode cX8_back 2 = .ok (.iconst 1, 1) := by decide +kernel
theorem dX8_back_3 : decode cX8_back 3 = .ok (.invokevirtual 112, 3) := by decide +kernel
theorem dX8_back_6 : decode cX8_back 6 = .ok (.aload_n 0, 1) := by decide +kernel
theorem dX8_back_7 : decode cX8_back 7 = .ok (.iload_n 1, 1) := by decide +kernel
theorem dX8_back_8 : decode cX8_back 8 = .ok (.iconst 3, 1) := by decide +kernel
theorem dX8_back_9 : decode cX8_back 9 = .ok (.invokevirtual 112, 3) := by decide +kernel
theorem dX8_back_12 : decode cX8_back 12 = .ok (.ddiv, 1) := by decide +kernel
theorem dX8_back_13 : decode cX8_back 13 = .ok (.dneg, 1) := by decide +kernel
theorem dX8_back_14 : decode cX8_back 14 = .ok (.invokestatic 104, 3) := by decide +kernel
theorem dX8_back_17 : decode cX8_back 17 = .ok (.dreturn, 1) := by decide +kernel
set_option maxRecDepth 20000 in
theorem ggX8_imageNow_X8_tableNow : GoodIn wsX8_imageNow wsX8_tableNow := goodIn_r _ [6, 7, 8, 9, 10, 11, 12, 5, 13, 14, 15, 16, 17, 18, 19, 20, 21, 22, 23, 24, 25, 26, 47, 48, 49, 50, 51, 52, 53, 54, 55, 56, 57, 58, 59, 60] rfl (by decide +kernel)
set_option maxRecDepth 20000 in
theorem gX8_imageNow_X8_tableNow : GoodIn wsX8_imageNow (wsV RX8 112 RX8 yX8_tableNow wsX8_tableNow) := goodIn_app (goodIn_of _ (by decide +kernel)) ggX8_imageNow_X8_tableNow
set_option maxRecDepth 20000 in
theorem ggX8_imageNow_J9_abs_294c1 : GoodIn wsX8_imageNow wsJ9_abs_294c1 := goodIn_r _ [30, 31, 32, 33, 34, 35, 36, 37, 38] rfl (by decide +kernel)
set_option maxRecDepth 20000 in
theorem gX8_imageNow_J9_abs_294c1 : GoodIn wsX8_imageNow (va_wsS RX8 79 yJ9_abs_294c1 wsJ9_abs_294c1) := goodIn_app (goodIn_of _ (by decide +kernel)) ggX8_imageNow_J9_abs_294c1
set_option maxRecDepth 20000 in
theorem ggX8_imageNow_X8_plain : GoodIn wsX8_imageNow wsX8_plain := goodIn_r _ [26] rfl (by decide +kernel)
set_option maxRecDepth 20000 in
theorem gX8_imageNow_X8_plain : GoodIn wsX8_imageNow (va_wsS RX8 104 yX8_plain wsX8_plain) := goodIn_app (goodIn_of _ (by decide +kernel)) ggX8_imageNow_X8_plain
set_option maxRecDepth 20000 in
theorem ggX8_imageNow_X8_hasImage : GoodIn wsX8_imageNow wsX8_hasImage := goodIn_r _ [42, 1, 2, 3, 4, 5, 6, 7, 8, 9, 10, 11, 12, 13, 14, 15, 16, 17, 18, 19, 20, 21, 22, 23, 24, 25, 26, 27, 28, 29, 30, 31, 32, 33, 34, 35, 36, 37, 38, 47, 48, 49, 50, 51, 52, 53, 54, 55, 56, 57, 58, 59, 60] rfl (by decide +kernel)
set_option maxRecDepth 20000 in
theorem gX8_imageNow_X8_hasImage : GoodIn wsX8_imageNow (wsV RX8 117 RX8 yX8_hasImage wsX8_hasImage) := goodIn_app (goodIn_of _ (by decide +kernel)) ggX8_imageNow_X8_hasImage
set_option maxRecDepth 20000 in
theorem ggX8_imageNow_X8_back : GoodIn wsX8_imageNow wsX8_back := goodIn_r _ [46, 2, 3, 4, 5, 6, 7, 8, 9, 10, 11, 12, 13, 14, 15, 16, 17, 18, 19, 20, 21, 22, 23, 24, 25, 26, 47, 48, 49, 50, 51, 52, 53, 54, 55, 56, 57, 58, 59, 60] rfl (by decide +kernel)
set_option maxRecDepth 20000 in
theorem gX8_imageNow_X8_back : GoodIn wsX8_imageNow (wsV RX8 120 RX8 yX8_back wsX8_back) := goodIn_app (goodIn_of _ (by decide +kernel)) ggX8_imageNow_X8_back
theorem dX8_imageNow_0 : decode cX8_imageNow 0 = .ok (.iload_n 2, 1) := by decide +kernel
theorem dX8_imageNow_1 : decode cX8_imageNow 1 = .ok (.iconst 4, 1) := by decide +kernel
theorem dX8_imageNow_2 : decode cX8_imageNow 2 = .ok (.if_icmp .ne 33, 3) := by decide +kernel
theorem dX8_imageNow_5 : decode cX8_imageNow 5 = .ok (.aload_n 0, 1) := by decide +kernel
theorem dX8_imageNow_6 : decode cX8_imageNow 6 = .ok (.iload_n 1, 1) := by decide +kernel
theorem dX8_imageNow_7 : decode cX8_imageNow 7 = .ok (.iconst 2, 1) := by decide +kernel
theorem dX8_imageNow_8 : decode cX8_imageNow 8 = .ok (.invokevirtual 112, 3) := by decide +kernel
theorem dX8_imageNow_11 : decode cX8_imageNow 11 = .ok (.dstore_n 3, 1) := by decide +kernel
theorem dX8_imageNow_12 : decode cX8_imageNow 12 = .ok (.dload_n 3, 1) := by decide +kernel
theorem dX8_imageNow_13 : decode cX8_imageNow 13 = .ok (.invokestatic 79, 3) := by decide +kernel
theorem dX8_imageNow_16 : decode cX8_imageNow 16 = .ok (.ldc2_w 115, 3) := by decide +kernel
theorem dX8_imageNow_19 : decode cX8_imageNow 19 = .ok (.dcmp .l, 1) := by decide +kernel
theorem dX8_imageNow_20 : decode cX8_imageNow 20 = .ok (.ifCond .lt 13, 3) := by decide +kernel
theorem dX8_imageNow_23 : decode cX8_imageNow 23 = .ok (.dconst 1, 1) := by decide +kernel
theorem dX8_imageNow_24 : decode cX8_imageNow 24 = .ok (.dload_n 3, 1) := by decide +kernel
theorem dX8_imageNow_25 : decode cX8_imageNow 25 = .ok (.ddiv, 1) := by decide +kernel
theorem dX8_imageNow_26 : decode cX8_imageNow 26 = .ok (.dneg, 1) := by decide +kernel
theorem dX8_imageNow_27 : decode cX8_imageNow 27 = .ok (.invokestatic 104, 3) := by decide +kernel
theorem dX8_imageNow_30 : decode cX8_imageNow 30 = .ok (.goto 4, 3) := by decide +kernel
theorem dX8_imageNow_33 : decode cX8_imageNow 33 = .ok (.dconst 0, 1) := by decide +kernel
theorem dX8_imageNow_34 : decode cX8_imageNow 34 = .ok (.dreturn, 1) := by decide +kernel
theorem dX8_imageNow_35 : decode cX8_imageNow 35 = .ok (.aload_n 0, 1) := by decide +kernel
theorem dX8_imageNow_36 : decode cX8_imageNow 36 = .ok (.iload_n 1, 1) := by decide +kernel
theorem dX8_imageNow_37 : decode cX8_imageNow 37 = .ok (.invokevirtual 117, 3) := by decide +kernel
theorem dX8_imageNow_40 : decode cX8_imageNow 40 = .ok (.ifCond .ne 5, 3) := by decide +kernel
theorem dX8_imageNow_43 : decode cX8_imageNow 43 = .ok (.dconst 0, 1) := by decide +kernel
theorem dX8_imageNow_44 : decode cX8_imageNow 44 = .ok (.dreturn, 1) := by decide +kernel
theorem dX8_imageNow_45 : decode cX8_imageNow 45 = .ok (.aload_n 0, 1) := by decide +kernel
theorem dX8_imageNow_46 : decode cX8_imageNow 46 = .ok (.iload_n 1, 1) := by decide +kernel
theorem dX8_imageNow_47 : decode cX8_imageNow 47 = .ok (.invokevirtual 120, 3) := by decide +kernel
theorem dX8_imageNow_50 : decode cX8_imageNow 50 = .ok (.dstore_n 3, 1) := by decide +kernel
theorem dX8_imageNow_51 : decode cX8_imageNow 51 = .ok (.iload_n 2, 1) := by decide +kernel
theorem dX8_imageNow_52 : decode cX8_imageNow 52 = .ok (.ifCond .ne 5, 3) := by decide +kernel
theorem dX8_imageNow_55 : decode cX8_imageNow 55 = .ok (.dconst 1, 1) := by decide +kernel
theorem dX8_imageNow_56 : decode cX8_imageNow 56 = .ok (.dreturn, 1) := by decide +kernel
theorem dX8_imageNow_57 : decode cX8_imageNow 57 = .ok (.iload_n 2, 1) := by decide +kernel
theorem dX8_imageNow_58 : decode cX8_imageNow 58 = .ok (.iconst 1, 1) := by decide +kernel
theorem dX8_imageNow_59 : decode cX8_imageNow 59 = .ok (.if_icmp .ne 5, 3) := by decide +kernel
theorem dX8_imageNow_62 : decode cX8_imageNow 62 = .ok (.dload_n 3, 1) := by decide +kernel
theorem dX8_imageNow_63 : decode cX8_imageNow 63 = .ok (.dreturn, 1) := by decide +kernel
theorem dX8_imageNow_64 : decode cX8_imageNow 64 = .ok (.iload_n 2, 1) := by decide +kernel
theorem dX8_imageNow_65 : decode cX8_imageNow 65 = .ok (.iconst 3, 1) := by decide +kernel
theorem dX8_imageNow_66 : decode cX8_imageNow 66 = .ok (.if_icmp .ne 15, 3) := by decide +kernel
theorem dX8_imageNow_69 : decode cX8_imageNow 69 = .ok (.dload_n 3, 1) := by decide +kernel
theorem dX8_imageNow_70 : decode cX8_imageNow 70 = .ok (.dconst 0, 1) := by decide +kernel
theorem dX8_imageNow_71 : decode cX8_imageNow 71 = .ok (.dcmp .l, 1) := by decide +kernel
theorem dX8_imageNow_72 : decode cX8_imageNow 72 = .ok (.ifCond .le 7, 3) := by decide +kernel
theorem dX8_imageNow_75 : decode cX8_imageNow 75 = .ok (.dconst 1, 1) := by decide +kernel
theorem dX8_imageNow_76 : decode cX8_imageNow 76 = .ok (.goto 4, 3) := by decide +kernel
theorem dX8_imageNow_79 : decode cX8_imageNow 79 = .ok (.dconst 0, 1) := by decide +kernel
theorem dX8_imageNow_80 : decode cX8_imageNow 80 = .ok (.dreturn, 1) := by decide +kernel
theorem dX8_imageNow_81 : decode cX8_imageNow 81 = .ok (.aload_n 0, 1) := by decide +kernel
theorem dX8_imageNow_82 : decode cX8_imageNow 82 = .ok (.iload_n 1, 1) := by decide +kernel
theorem dX8_imageNow_83 : decode cX8_imageNow 83 = .ok (.iconst 0, 1) := by decide +kernel
theorem dX8_imageNow_84 : decode cX8_imageNow 84 = .ok (.invokevirtual 112, 3) := by decide +kernel
theorem dX8_imageNow_87 : decode cX8_imageNow 87 = .ok (.aload_n 0, 1) := by decide +kernel
theorem dX8_imageNow_88 : decode cX8_imageNow 88 = .ok (.iload_n 1, 1) := by decide +kernel
theorem dX8_imageNow_89 : decode cX8_imageNow 89 = .ok (.iconst 2, 1) := by decide +kernel
theorem dX8_imageNow_90 : decode cX8_imageNow 90 = .ok (.invokevirtual 112, 3) := by decide +kernel
theorem dX8_imageNow_93 : decode cX8_imageNow 93 = .ok (.dload_n 3, 1) := by decide +kernel
theorem dX8_imageNow_94 : decode cX8_imageNow 94 = .ok (.dmul, 1) := by decide +kernel
theorem dX8_imageNow_95 : decode cX8_imageNow 95 = .ok (.dadd, 1) := by decide +kernel
theorem dX8_imageNow_96 : decode cX8_imageNow 96 = .ok (.invokestatic 104, 3) := by decide +kernel
theorem dX8_imageNow_99 : decode cX8_imageNow 99 = .ok (.dreturn, 1) := by decide +kernel
set_option maxRecDepth 20000 in
theorem ggX8_opening_X8_next : GoodIn wsX8_opening wsX8_next := goodIn_r _ [11, 12, 3, 13, 34, 35, 36, 37, 38, 39, 40, 41, 42, 43, 44, 45, 46, 47] rfl (by decide +kernel)
set_option maxRecDepth 20000 in
theorem gX8_opening_X8_next : GoodIn wsX8_opening (wsV RX8 76 RX8 yX8_next wsX8_next) := goodIn_app (goodIn_of _ (by decide +kernel)) ggX8_opening_X8_next
set_option maxRecDepth 20000 in
theorem ggX8_opening_J9_abs_294c1 : GoodIn wsX8_opening wsJ9_abs_294c1 := goodIn_r _ [17, 18, 19, 20, 21, 22, 23, 24, 25] rfl (by decide +kernel)
set_option maxRecDepth 20000 in
theorem gX8_opening_J9_abs_294c1 : GoodIn wsX8_opening (va_wsS RX8 79 yJ9_abs_294c1 wsJ9_abs_294c1) := goodIn_app (goodIn_of _ (by decide +kernel)) ggX8_opening_J9_abs_294c1
set_option maxRecDepth 20000 in
theorem ggX8_opening_X8_strengthNow : GoodIn wsX8_opening wsX8_strengthNow := goodIn_r _ [29, 6, 30, 31, 32, 33, 34, 35, 36, 37, 38, 39, 40, 41, 42, 43, 44, 45, 46, 47] rfl (by decide +kernel)
set_option maxRecDepth 20000 in
theorem gX8_opening_X8_strengthNow : GoodIn wsX8_opening (wsV RX8 85 RX8 yX8_strengthNow wsX8_strengthNow) := goodIn_app (goodIn_of _ (by decide +kernel)) ggX8_opening_X8_strengthNow
theorem dX8_opening_0 : decode cX8_opening 0 = .ok (.dconst 0, 1) := by decide +kernel
theorem dX8_opening_1 : decode cX8_opening 1 = .ok (.dstore_n 1, 1) := by decide +kernel
theorem dX8_opening_2 : decode cX8_opening 2 = .ok (.dconst 1, 1) := by decide +kernel
theorem dX8_opening_3 : decode cX8_opening 3 = .ok (.dstore_n 3, 1) := by decide +kernel
theorem dX8_opening_4 : decode cX8_opening 4 = .ok (.aload_n 0, 1) := by decide +kernel
theorem dX8_opening_5 : decode cX8_opening 5 = .ok (.getfield 60, 3) := by decide +kernel
theorem dX8_opening_8 : decode cX8_opening 8 = .ok (.istore 5, 2) := by decide +kernel
theorem dX8_opening_10 : decode cX8_opening 10 = .ok (.iconst (-1), 1) := by decide +kernel
theorem dX8_opening_11 : decode cX8_opening 11 = .ok (.istore 6, 2) := by decide +kernel
theorem dX8_opening_13 : decode cX8_opening 13 = .ok (.aload_n 0, 1) := by decide +kernel
theorem dX8_opening_14 : decode cX8_opening 14 = .ok (.dconst 0, 1) := by decide +kernel
theorem dX8_opening_15 : decode cX8_opening 15 = .ok (.putfield 66, 3) := by decide +kernel
theorem dX8_opening_18 : decode cX8_opening 18 = .ok (.aload_n 0, 1) := by decide +kernel
theorem dX8_opening_19 : decode cX8_opening 19 = .ok (.iload 5, 2) := by decide +kernel
theorem dX8_opening_21 : decode cX8_opening 21 = .ok (.invokevirtual 76, 3) := by decide +kernel
theorem dX8_opening_24 : decode cX8_opening 24 = .ok (.istore 7, 2) := by decide +kernel
theorem dX8_opening_26 : decode cX8_opening 26 = .ok (.iload 7, 2) := by decide +kernel
theorem dX8_opening_28 : decode cX8_opening 28 = .ok (.iconst (-1), 1) := by decide +kernel
theorem dX8_opening_29 : decode cX8_opening 29 = .ok (.if_icmp .eq 117, 3) := by decide +kernel
theorem dX8_opening_32 : decode cX8_opening 32 = .ok (.aload_n 0, 1) := by decide +kernel
theorem dX8_opening_33 : decode cX8_opening 33 = .ok (.getfield 9, 3) := by decide +kernel
theorem dX8_opening_36 : decode cX8_opening 36 = .ok (.iload 7, 2) := by decide +kernel
theorem dX8_opening_38 : decode cX8_opening 38 = .ok (.iaload, 1) := by decide +kernel
theorem dX8_opening_39 : decode cX8_opening 39 = .ok (.iload 5, 2) := by decide +kernel
theorem dX8_opening_41 : decode cX8_opening 41 = .ok (.isub, 1) := by decide +kernel
theorem dX8_opening_42 : decode cX8_opening 42 = .ok (.istore 8, 2) := by decide +kernel
theorem dX8_opening_44 : decode cX8_opening 44 = .ok (.aload_n 0, 1) := by decide +kernel
theorem dX8_opening_45 : decode cX8_opening 45 = .ok (.getfield 9, 3) := by decide +kernel
theorem dX8_opening_48 : decode cX8_opening 48 = .ok (.iload 7, 2) := by decide +kernel
theorem dX8_opening_50 : decode cX8_opening 50 = .ok (.iaload, 1) := by decide +kernel
theorem dX8_opening_51 : decode cX8_opening 51 = .ok (.istore 5, 2) := by decide +kernel
theorem dX8_opening_53 : decode cX8_opening 53 = .ok (.dload_n 1, 1) := by decide +kernel
theorem dX8_opening_54 : decode cX8_opening 54 = .ok (.dload_n 3, 1) := by decide +kernel
theorem dX8_opening_55 : decode cX8_opening 55 = .ok (.iload 8, 2) := by decide +kernel
theorem dX8_opening_57 : decode cX8_opening 57 = .ok (.i2d, 1) := by decide +kernel
theorem dX8_opening_58 : decode cX8_opening 58 = .ok (.dmul, 1) := by decide +kernel
theorem dX8_opening_59 : decode cX8_opening 59 = .ok (.dadd, 1) := by decide +kernel
theorem dX8_opening_60 : decode cX8_opening 60 = .ok (.dstore_n 1, 1) := by decide +kernel
theorem dX8_opening_61 : decode cX8_opening 61 = .ok (.aload_n 0, 1) := by decide +kernel
theorem dX8_opening_62 : decode cX8_opening 62 = .ok (.getfield 13, 3) := by decide +kernel
theorem dX8_opening_65 : decode cX8_opening 65 = .ok (.iload 7, 2) := by decide +kernel
theorem dX8_opening_67 : decode cX8_opening 67 = .ok (.iaload, 1) := by decide +kernel
theorem dX8_opening_68 : decode cX8_opening 68 = .ok (.i2d, 1) := by decide +kernel
theorem dX8_opening_69 : decode cX8_opening 69 = .ok (.dload_n 1, 1) := by decide +kernel
theorem dX8_opening_70 : decode cX8_opening 70 = .ok (.invokestatic 79, 3) := by decide +kernel
theorem dX8_opening_73 : decode cX8_opening 73 = .ok (.ddiv, 1) := by decide +kernel
theorem dX8_opening_74 : decode cX8_opening 74 = .ok (.dstore 9, 2) := by decide +kernel
theorem dX8_opening_76 : decode cX8_opening 76 = .ok (.dload_n 1, 1) := by decide +kernel
theorem dX8_opening_77 : decode cX8_opening 77 = .ok (.invokestatic 79, 3) := by decide +kernel
theorem dX8_opening_80 : decode cX8_opening 80 = .ok (.ldc2_w 115, 3) := by decide +kernel
theorem dX8_opening_83 : decode cX8_opening 83 = .ok (.dcmp .l, 1) := by decide +kernel
theorem dX8_opening_84 : decode cX8_opening 84 = .ok (.ifCond .lt 29, 3) := by decide +kernel
theorem dX8_opening_87 : decode cX8_opening 87 = .ok (.iload 6, 2) := by decide +kernel
theorem dX8_opening_89 : decode cX8_opening 89 = .ok (.iconst (-1), 1) := by decide +kernel
theorem dX8_opening_90 : decode cX8_opening 90 = .ok (.if_icmp .eq 13, 3) := by decide +kernel
theorem dX8_opening_93 : decode cX8_opening 93 = .ok (.dload 9, 2) := by decide +kernel
theorem dX8_opening_95 : decode cX8_opening 95 = .ok (.aload_n 0, 1) := by decide +kernel
theorem dX8_opening_96 : decode cX8_opening 96 = .ok (.getfield 66, 3) := by decide +kernel
theorem dX8_opening_99 : decode cX8_opening 99 = .ok (.dcmp .g, 1) := by decide +kernel
theorem dX8_opening_100 : decode cX8_opening 100 = .ok (.ifCond .ge 13, 3) := by decide +kernel
theorem dX8_opening_103 : decode cX8_opening 103 = .ok (.iload 7, 2) := by decide +kernel
theorem dX8_opening_105 : decode cX8_opening 105 = .ok (.istore 6, 2) := by decide +kernel
theorem dX8_opening_107 : decode cX8_opening 107 = .ok (.aload_n 0, 1) := by decide +kernel
theorem dX8_opening_108 : decode cX8_opening 108 = .ok (.dload 9, 2) := by decide +kernel
theorem dX8_opening_110 : decode cX8_opening 110 = .ok (.putfield 66, 3) := by decide +kernel
theorem dX8_opening_113 : decode cX8_opening 113 = .ok (.aload_n 0, 1) := by decide +kernel
theorem dX8_opening_114 : decode cX8_opening 114 = .ok (.getfield 16, 3) := by decide +kernel
theorem dX8_opening_117 : decode cX8_opening 117 = .ok (.iload 7, 2) := by decide +kernel
theorem dX8_opening_119 : decode cX8_opening 119 = .ok (.iaload, 1) := by decide +kernel
theorem dX8_opening_120 : decode cX8_opening 120 = .ok (.ifCond .eq 15, 3) := by decide +kernel
theorem dX8_opening_123 : decode cX8_opening 123 = .ok (.dload_n 3, 1) := by decide +kernel
theorem dX8_opening_124 : decode cX8_opening 124 = .ok (.dload_n 1, 1) := by decide +kernel
theorem dX8_opening_125 : decode cX8_opening 125 = .ok (.aload_n 0, 1) := by decide +kernel
theorem dX8_opening_126 : decode cX8_opening 126 = .ok (.iload 7, 2) := by decide +kernel
theorem dX8_opening_128 : decode cX8_opening 128 = .ok (.iconst 1, 1) := by decide +kernel
theorem dX8_opening_129 : decode cX8_opening 129 = .ok (.invokevirtual 85, 3) := by decide +kernel
theorem dX8_opening_132 : decode cX8_opening 132 = .ok (.dmul, 1) := by decide +kernel
theorem dX8_opening_133 : decode cX8_opening 133 = .ok (.dsub, 1) := by decide +kernel
theorem dX8_opening_134 : decode cX8_opening 134 = .ok (.dstore_n 3, 1) := by decide +kernel
theorem dX8_opening_135 : decode cX8_opening 135 = .ok (.aload_n 0, 1) := by decide +kernel
theorem dX8_opening_136 : decode cX8_opening 136 = .ok (.iload 5, 2) := by decide +kernel
theorem dX8_opening_138 : decode cX8_opening 138 = .ok (.invokevirtual 76, 3) := by decide +kernel
theorem dX8_opening_141 : decode cX8_opening 141 = .ok (.istore 7, 2) := by decide +kernel
theorem dX8_opening_143 : decode cX8_opening 143 = .ok (.goto (-117), 3) := by decide +kernel
theorem dX8_opening_146 : decode cX8_opening 146 = .ok (.iload 6, 2) := by decide +kernel
theorem dX8_opening_148 : decode cX8_opening 148 = .ok (.ireturn, 1) := by decide +kernel
set_option maxRecDepth 20000 in
theorem ggX8_orderOf_X8_next : GoodIn wsX8_orderOf wsX8_next := goodIn_r _ [7, 8, 2, 9, 10, 11, 12, 13, 14, 15, 16, 17, 18, 19, 20, 21, 22, 23] rfl (by decide +kernel)
set_option maxRecDepth 20000 in
theorem gX8_orderOf_X8_next : GoodIn wsX8_orderOf (wsV RX8 76 RX8 yX8_next wsX8_next) := goodIn_app (goodIn_of _ (by decide +kernel)) ggX8_orderOf_X8_next
theorem dX8_orderOf_0 : decode cX8_orderOf 0 = .ok (.iconst 0, 1) := by decide +kernel
theorem dX8_orderOf_1 : decode cX8_orderOf 1 = .ok (.istore_n 2, 1) := by decide +kernel
theorem dX8_orderOf_2 : decode cX8_orderOf 2 = .ok (.aload_n 0, 1) := by decide +kernel
theorem dX8_orderOf_3 : decode cX8_orderOf 3 = .ok (.aload_n 0, 1) := by decide +kernel
theorem dX8_orderOf_4 : decode cX8_orderOf 4 = .ok (.getfield 60, 3) := by decide +kernel
theorem dX8_orderOf_7 : decode cX8_orderOf 7 = .ok (.invokevirtual 76, 3) := by decide +kernel
theorem dX8_orderOf_10 : decode cX8_orderOf 10 = .ok (.istore_n 3, 1) := by decide +kernel
theorem dX8_orderOf_11 : decode cX8_orderOf 11 = .ok (.iload_n 3, 1) := by decide +kernel
theorem dX8_orderOf_12 : decode cX8_orderOf 12 = .ok (.iconst (-1), 1) := by decide +kernel
theorem dX8_orderOf_13 : decode cX8_orderOf 13 = .ok (.if_icmp .eq 27, 3) := by decide +kernel
theorem dX8_orderOf_16 : decode cX8_orderOf 16 = .ok (.iload_n 3, 1) := by decide +kernel
theorem dX8_orderOf_17 : decode cX8_orderOf 17 = .ok (.iload_n 1, 1) := by decide +kernel
theorem dX8_orderOf_18 : decode cX8_orderOf 18 = .ok (.if_icmp .ne 5, 3) := by decide +kernel
theorem dX8_orderOf_21 : decode cX8_orderOf 21 = .ok (.iload_n 2, 1) := by decide +kernel
theorem dX8_orderOf_22 : decode cX8_orderOf 22 = .ok (.ireturn, 1) := by decide +kernel
theorem dX8_orderOf_23 : decode cX8_orderOf 23 = .ok (.iinc 2 1, 3) := by decide +kernel
theorem dX8_orderOf_26 : decode cX8_orderOf 26 = .ok (.aload_n 0, 1) := by decide +kernel
theorem dX8_orderOf_27 : decode cX8_orderOf 27 = .ok (.aload_n 0, 1) := by decide +kernel
theorem dX8_orderOf_28 : decode cX8_orderOf 28 = .ok (.getfield 9, 3) := by decide +kernel
theorem dX8_orderOf_31 : decode cX8_orderOf 31 = .ok (.iload_n 3, 1) := by decide +kernel
theorem dX8_orderOf_32 : decode cX8_orderOf 32 = .ok (.iaload, 1) := by decide +kernel
theorem dX8_orderOf_33 : decode cX8_orderOf 33 = .ok (.invokevirtual 76, 3) := by decide +kernel
theorem dX8_orderOf_36 : decode cX8_orderOf 36 = .ok (.istore_n 3, 1) := by decide +kernel
theorem dX8_orderOf_37 : decode cX8_orderOf 37 = .ok (.goto (-26), 3) := by decide +kernel
theorem dX8_orderOf_40 : decode cX8_orderOf 40 = .ok (.iconst (-1), 1) := by decide +kernel
theorem dX8_orderOf_41 : decode cX8_orderOf 41 = .ok (.ireturn, 1) := by decide +kernel
set_option maxRecDepth 20000 in
theorem ggX8_ofPieceNow_X8_orderOf : GoodIn wsX8_ofPieceNow wsX8_orderOf := goodIn_r _ [9, 10, 1, 11, 12, 13, 8, 14, 15, 16, 17, 18, 19, 20, 21, 22, 23, 24, 25, 26, 27, 28, 29, 30] rfl (by decide +kernel)
set_option maxRecDepth 20000 in
theorem gX8_ofPieceNow_X8_orderOf : GoodIn wsX8_ofPieceNow (wsV RX8 109 RX8 yX8_orderOf wsX8_orderOf) := goodIn_app (goodIn_of _ (by decide +kernel)) ggX8_ofPieceNow_X8_orderOf
theorem dX8_ofPieceNow_0 : decode cX8_ofPieceNow 0 = .ok (.iload_n 2, 1) := by decide +kernel
theorem dX8_ofPieceNow_1 : decode cX8_ofPieceNow 1 = .ok (.tableswitch 59 0 3 #[31, 38, 45, 52], 31) := by decide +kernel
theorem dX8_ofPieceNow_32 : decode cX8_ofPieceNow 32 = .ok (.aload_n 0, 1) := by decide +kernel
theorem dX8_ofPieceNow_33 : decode cX8_ofPieceNow 33 = .ok (.getfield 9, 3) := by decide +kernel
theorem dX8_ofPieceNow_36 : decode cX8_ofPieceNow 36 = .ok (.iload_n 1, 1) := by decide +kernel
theorem dX8_ofPieceNow_37 : decode cX8_ofPieceNow 37 = .ok (.iaload, 1) := by decide +kernel
theorem dX8_ofPieceNow_38 : decode cX8_ofPieceNow 38 = .ok (.ireturn, 1) := by decide +kernel
theorem dX8_ofPieceNow_39 : decode cX8_ofPieceNow 39 = .ok (.aload_n 0, 1) := by decide +kernel
theorem dX8_ofPieceNow_40 : decode cX8_ofPieceNow 40 = .ok (.getfield 13, 3) := by decide +kernel
theorem dX8_ofPieceNow_43 : decode cX8_ofPieceNow 43 = .ok (.iload_n 1, 1) := by decide +kernel
theorem dX8_ofPieceNow_44 : decode cX8_ofPieceNow 44 = .ok (.iaload, 1) := by decide +kernel
theorem dX8_ofPieceNow_45 : decode cX8_ofPieceNow 45 = .ok (.ireturn, 1) := by decide +kernel
theorem dX8_ofPieceNow_46 : decode cX8_ofPieceNow 46 = .ok (.aload_n 0, 1) := by decide +kernel
theorem dX8_ofPieceNow_47 : decode cX8_ofPieceNow 47 = .ok (.getfield 16, 3) := by decide +kernel
theorem dX8_ofPieceNow_50 : decode cX8_ofPieceNow 50 = .ok (.iload_n 1, 1) := by decide +kernel
theorem dX8_ofPieceNow_51 : decode cX8_ofPieceNow 51 = .ok (.iaload, 1) := by decide +kernel
theorem dX8_ofPieceNow_52 : decode cX8_ofPieceNow 52 = .ok (.ireturn, 1) := by decide +kernel
theorem dX8_ofPieceNow_53 : decode cX8_ofPieceNow 53 = .ok (.aload_n 0, 1) := by decide +kernel
theorem dX8_ofPieceNow_54 : decode cX8_ofPieceNow 54 = .ok (.getfield 19, 3) := by decide +kernel
theorem dX8_ofPieceNow_57 : decode cX8_ofPieceNow 57 = .ok (.iload_n 1, 1) := by decide +kernel
theorem dX8_ofPieceNow_58 : decode cX8_ofPieceNow 58 = .ok (.iaload, 1) := by decide +kernel
theorem dX8_ofPieceNow_59 : decode cX8_ofPieceNow 59 = .ok (.ireturn, 1) := by decide +kernel
theorem dX8_ofPieceNow_60 : decode cX8_ofPieceNow 60 = .ok (.aload_n 0, 1) := by decide +kernel
theorem dX8_ofPieceNow_61 : decode cX8_ofPieceNow 61 = .ok (.iload_n 1, 1) := by decide +kernel
theorem dX8_ofPieceNow_62 : decode cX8_ofPieceNow 62 = .ok (.invokevirtual 109, 3) := by decide +kernel
theorem dX8_ofPieceNow_65 : decode cX8_ofPieceNow 65 = .ok (.ireturn, 1) := by decide +kernel
set_option maxRecDepth 20000 in
theorem ggX8_ofPiece_X8_isPiece : GoodIn wsX8_ofPiece wsX8_isPiece := goodIn_r _ [6, 7, 8, 9, 5, 10, 33, 34, 35, 36, 37, 38, 39, 40, 41, 42, 43, 44, 45, 46] rfl (by decide +kernel)
set_option maxRecDepth 20000 in
theorem gX8_ofPiece_X8_isPiece : GoodIn wsX8_ofPiece (wsV RX8 56 RX8 yX8_isPiece wsX8_isPiece) := goodIn_app (goodIn_of _ (by decide +kernel)) ggX8_ofPiece_X8_isPiece
set_option maxRecDepth 20000 in
theorem ggX8_ofPiece_X8_refuse : GoodIn wsX8_ofPiece wsX8_refuse := goodIn_r _ [14, 1, 33, 34, 35, 36, 37, 38, 39, 40, 41, 42, 43, 44, 45, 46] rfl (by decide +kernel)
set_option maxRecDepth 20000 in
theorem gX8_ofPiece_X8_refuse : GoodIn wsX8_ofPiece (wsV RX8 45 RX8 yX8_refuse wsX8_refuse) := goodIn_app (goodIn_of _ (by decide +kernel)) ggX8_ofPiece_X8_refuse
set_option maxRecDepth 20000 in
theorem ggX8_ofPiece_X8_is : GoodIn wsX8_ofPiece wsX8_is := goodIn_r _ [10] rfl (by decide +kernel)
set_option maxRecDepth 20000 in
theorem gX8_ofPiece_X8_is : GoodIn wsX8_ofPiece (va_wsS RX8 48 yX8_is wsX8_is) := goodIn_app (goodIn_of _ (by decide +kernel)) ggX8_ofPiece_X8_is
set_option maxRecDepth 20000 in
theorem ggX8_ofPiece_X8_ofPieceNow : GoodIn wsX8_ofPiece wsX8_ofPieceNow := goodIn_r _ [18, 19, 20, 21, 22, 23, 24, 25, 5, 26, 27, 28, 29, 30, 31, 7, 32, 33, 34, 35, 36, 37, 38, 39, 40, 41, 42, 43, 44, 45, 46] rfl (by decide +kernel)
set_option maxRecDepth 20000 in
theorem gX8_ofPiece_X8_ofPieceNow : GoodIn wsX8_ofPiece (wsV RX8 124 RX8 yX8_ofPieceNow wsX8_ofPieceNow) := goodIn_app (goodIn_of _ (by decide +kernel)) ggX8_ofPiece_X8_ofPieceNow
theorem dX8_ofPiece_0 : decode cX8_ofPiece 0 = .ok (.aload_n 0, 1) := by decide +kernel
theorem dX8_ofPiece_1 : decode cX8_ofPiece 1 = .ok (.iconst 0, 1) := by decide +kernel
theorem dX8_ofPiece_2 : decode cX8_ofPiece 2 = .ok (.putfield 29, 3) := by decide +kernel
theorem dX8_ofPiece_5 : decode cX8_ofPiece 5 = .ok (.aload_n 0, 1) := by decide +kernel
theorem dX8_ofPiece_6 : decode cX8_ofPiece 6 = .ok (.iload_n 1, 1) := by decide +kernel
theorem dX8_ofPiece_7 : decode cX8_ofPiece 7 = .ok (.invokevirtual 56, 3) := by decide +kernel
theorem dX8_ofPiece_10 : decode cX8_ofPiece 10 = .ok (.ifCond .ne 9, 3) := by decide +kernel
theorem dX8_ofPiece_13 : decode cX8_ofPiece 13 = .ok (.aload_n 0, 1) := by decide +kernel
theorem dX8_ofPiece_14 : decode cX8_ofPiece 14 = .ok (.iconst 1, 1) := by decide +kernel
theorem dX8_ofPiece_15 : decode cX8_ofPiece 15 = .ok (.invokevirtual 45, 3) := by decide +kernel
theorem dX8_ofPiece_18 : decode cX8_ofPiece 18 = .ok (.ireturn, 1) := by decide +kernel
theorem dX8_ofPiece_19 : decode cX8_ofPiece 19 = .ok (.iload_n 2, 1) := by decide +kernel
theorem dX8_ofPiece_20 : decode cX8_ofPiece 20 = .ok (.iconst 0, 1) := by decide +kernel
theorem dX8_ofPiece_21 : decode cX8_ofPiece 21 = .ok (.iconst 4, 1) := by decide +kernel
theorem dX8_ofPiece_22 : decode cX8_ofPiece 22 = .ok (.invokestatic 48, 3) := by decide +kernel
theorem dX8_ofPiece_25 : decode cX8_ofPiece 25 = .ok (.ifCond .eq 12, 3) := by decide +kernel
theorem dX8_ofPiece_28 : decode cX8_ofPiece 28 = .ok (.aload_n 0, 1) := by decide +kernel
theorem dX8_ofPiece_29 : decode cX8_ofPiece 29 = .ok (.iload_n 1, 1) := by decide +kernel
theorem dX8_ofPiece_30 : decode cX8_ofPiece 30 = .ok (.iload_n 2, 1) := by decide +kernel
theorem dX8_ofPiece_31 : decode cX8_ofPiece 31 = .ok (.invokevirtual 124, 3) := by decide +kernel
theorem dX8_ofPiece_34 : decode cX8_ofPiece 34 = .ok (.goto 8, 3) := by decide +kernel
theorem dX8_ofPiece_37 : decode cX8_ofPiece 37 = .ok (.aload_n 0, 1) := by decide +kernel
theorem dX8_ofPiece_38 : decode cX8_ofPiece 38 = .ok (.iconst 2, 1) := by decide +kernel
theorem dX8_ofPiece_39 : decode cX8_ofPiece 39 = .ok (.invokevirtual 45, 3) := by decide +kernel
theorem dX8_ofPiece_42 : decode cX8_ofPiece 42 = .ok (.ireturn, 1) := by decide +kernel
set_option maxRecDepth 20000 in
theorem ggX8_strength_X8_isPiece : GoodIn wsX8_strength wsX8_isPiece := goodIn_r _ [6, 7, 8, 9, 5, 10, 23, 24, 25, 26, 27, 28, 29, 30, 31, 32, 33, 34, 35, 36] rfl (by decide +kernel)
set_option maxRecDepth 20000 in
theorem gX8_strength_X8_isPiece : GoodIn wsX8_strength (wsV RX8 56 RX8 yX8_isPiece wsX8_isPiece) := goodIn_app (goodIn_of _ (by decide +kernel)) ggX8_strength_X8_isPiece
set_option maxRecDepth 20000 in
theorem ggX8_strength_X8_is : GoodIn wsX8_strength wsX8_is := goodIn_r _ [10] rfl (by decide +kernel)
set_option maxRecDepth 20000 in
theorem gX8_strength_X8_is : GoodIn wsX8_strength (va_wsS RX8 48 yX8_is wsX8_is) := goodIn_app (goodIn_of _ (by decide +kernel)) ggX8_strength_X8_is
set_option maxRecDepth 20000 in
theorem ggX8_strength_X8_strengthNow : GoodIn wsX8_strength wsX8_strengthNow := goodIn_r _ [14, 15, 16, 17, 18, 19, 23, 24, 25, 26, 27, 28, 29, 30, 31, 32, 33, 34, 35, 36] rfl (by decide +kernel)
set_option maxRecDepth 20000 in
theorem gX8_strength_X8_strengthNow : GoodIn wsX8_strength (wsV RX8 85 RX8 yX8_strengthNow wsX8_strengthNow) := goodIn_app (goodIn_of _ (by decide +kernel)) ggX8_strength_X8_strengthNow
set_option maxRecDepth 20000 in
theorem ggX8_strength_X8_plain : GoodIn wsX8_strength wsX8_plain := goodIn_r _ [22] rfl (by decide +kernel)
set_option maxRecDepth 20000 in
theorem gX8_strength_X8_plain : GoodIn wsX8_strength (va_wsS RX8 104 yX8_plain wsX8_plain) := goodIn_app (goodIn_of _ (by decide +kernel)) ggX8_strength_X8_plain
theorem dX8_strength_0 : decode cX8_strength 0 = .ok (.aload_n 0, 1) := by decide +kernel
theorem dX8_strength_1 : decode cX8_strength 1 = .ok (.aload_n 0, 1) := by decide +kernel
theorem dX8_strength_2 : decode cX8_strength 2 = .ok (.iload_n 1, 1) := by decide +kernel
theorem dX8_strength_3 : decode cX8_strength 3 = .ok (.invokevirtual 56, 3) := by decide +kernel
theorem dX8_strength_6 : decode cX8_strength 6 = .ok (.ifCond .ne 7, 3) := by decide +kernel
theorem dX8_strength_9 : decode cX8_strength 9 = .ok (.iconst 1, 1) := by decide +kernel
theorem dX8_strength_10 : decode cX8_strength 10 = .ok (.goto 17, 3) := by decide +kernel
theorem dX8_strength_13 : decode cX8_strength 13 = .ok (.iload_n 2, 1) := by decide +kernel
theorem dX8_strength_14 : decode cX8_strength 14 = .ok (.iconst 0, 1) := by decide +kernel
theorem dX8_strength_15 : decode cX8_strength 15 = .ok (.iconst 2, 1) := by decide +kernel
theorem dX8_strength_16 : decode cX8_strength 16 = .ok (.invokestatic 48, 3) := by decide +kernel
theorem dX8_strength_19 : decode cX8_strength 19 = .ok (.ifCond .eq 7, 3) := by decide +kernel
theorem dX8_strength_22 : decode cX8_strength 22 = .ok (.iconst 0, 1) := by decide +kernel
theorem dX8_strength_23 : decode cX8_strength 23 = .ok (.goto 4, 3) := by decide +kernel
theorem dX8_strength_26 : decode cX8_strength 26 = .ok (.iconst 2, 1) := by decide +kernel
theorem dX8_strength_27 : decode cX8_strength 27 = .ok (.putfield 29, 3) := by decide +kernel
theorem dX8_strength_30 : decode cX8_strength 30 = .ok (.aload_n 0, 1) := by decide +kernel
theorem dX8_strength_31 : decode cX8_strength 31 = .ok (.getfield 29, 3) := by decide +kernel
theorem dX8_strength_34 : decode cX8_strength 34 = .ok (.ifCond .ne 15, 3) := by decide +kernel
theorem dX8_strength_37 : decode cX8_strength 37 = .ok (.aload_n 0, 1) := by decide +kernel
theorem dX8_strength_38 : decode cX8_strength 38 = .ok (.iload_n 1, 1) := by decide +kernel
theorem dX8_strength_39 : decode cX8_strength 39 = .ok (.iload_n 2, 1) := by decide +kernel
theorem dX8_strength_40 : decode cX8_strength 40 = .ok (.invokevirtual 85, 3) := by decide +kernel
theorem dX8_strength_43 : decode cX8_strength 43 = .ok (.invokestatic 104, 3) := by decide +kernel
theorem dX8_strength_46 : decode cX8_strength 46 = .ok (.goto 4, 3) := by decide +kernel
theorem dX8_strength_49 : decode cX8_strength 49 = .ok (.dconst 0, 1) := by decide +kernel
theorem dX8_strength_50 : decode cX8_strength 50 = .ok (.dreturn, 1) := by decide +kernel
set_option maxRecDepth 20000 in
theorem ggX8_rayNow_X8_go : GoodIn wsX8_rayNow wsX8_go := goodIn_r _ [10, 3, 4, 5, 11, 12, 13, 14, 15, 16, 17, 18, 9, 19, 20, 21, 22, 23, 24, 25, 26, 27, 28, 29, 30, 31, 32, 33, 34, 35, 36, 37, 38, 39, 2, 43, 44, 45, 46, 47, 48, 49, 50, 51, 52, 53, 54, 55, 56] rfl (by decide +kernel)
set_option maxRecDepth 20000 in
theorem gX8_rayNow_X8_go : GoodIn wsX8_rayNow (wsV RX8 93 RX8 yX8_go wsX8_go) := goodIn_app (goodIn_of _ (by decide +kernel)) ggX8_rayNow_X8_go
set_option maxRecDepth 20000 in
theorem ggX8_rayNow_X8_plain : GoodIn wsX8_rayNow wsX8_plain := goodIn_r _ [42] rfl (by decide +kernel)
set_option maxRecDepth 20000 in
theorem gX8_rayNow_X8_plain : GoodIn wsX8_rayNow (va_wsS RX8 104 yX8_plain wsX8_plain) := goodIn_app (goodIn_of _ (by decide +kernel)) ggX8_rayNow_X8_plain
theorem dX8_rayNow_0 : decode cX8_rayNow 0 = .ok (.aload_n 0, 1) := by decide +kernel
theorem dX8_rayNow_1 : decode cX8_rayNow 1 = .ok (.iload_n 1, 1) := by decide +kernel
theorem dX8_rayNow_2 : decode cX8_rayNow 2 = .ok (.i2d, 1) := by decide +kernel
theorem dX8_rayNow_3 : decode cX8_rayNow 3 = .ok (.ldc2_w 89, 3) := by decide +kernel
theorem dX8_rayNow_6 : decode cX8_rayNow 6 = .ok (.ddiv, 1) := by decide +kernel
theorem dX8_rayNow_7 : decode cX8_rayNow 7 = .ok (.iload_n 2, 1) := by decide +kernel
theorem dX8_rayNow_8 : decode cX8_rayNow 8 = .ok (.i2d, 1) := by decide +kernel
theorem dX8_rayNow_9 : decode cX8_rayNow 9 = .ok (.ldc2_w 39, 3) := by decide +kernel
theorem dX8_rayNow_12 : decode cX8_rayNow 12 = .ok (.ddiv, 1) := by decide +kernel
theorem dX8_rayNow_13 : decode cX8_rayNow 13 = .ok (.iload_n 3, 1) := by decide +kernel
theorem dX8_rayNow_14 : decode cX8_rayNow 14 = .ok (.iconst (-1), 1) := by decide +kernel
theorem dX8_rayNow_15 : decode cX8_rayNow 15 = .ok (.invokevirtual 93, 3) := by decide +kernel
theorem dX8_rayNow_18 : decode cX8_rayNow 18 = .ok (.iload 4, 2) := by decide +kernel
theorem dX8_rayNow_20 : decode cX8_rayNow 20 = .ok (.ifCond .ne 10, 3) := by decide +kernel
theorem dX8_rayNow_23 : decode cX8_rayNow 23 = .ok (.aload_n 0, 1) := by decide +kernel
theorem dX8_rayNow_24 : decode cX8_rayNow 24 = .ok (.getfield 66, 3) := by decide +kernel
theorem dX8_rayNow_27 : decode cX8_rayNow 27 = .ok (.goto 21, 3) := by decide +kernel
theorem dX8_rayNow_30 : decode cX8_rayNow 30 = .ok (.iload 4, 2) := by decide +kernel
theorem dX8_rayNow_32 : decode cX8_rayNow 32 = .ok (.iconst 1, 1) := by decide +kernel
theorem dX8_rayNow_33 : decode cX8_rayNow 33 = .ok (.if_icmp .ne 10, 3) := by decide +kernel
theorem dX8_rayNow_36 : decode cX8_rayNow 36 = .ok (.aload_n 0, 1) := by decide +kernel
theorem dX8_rayNow_37 : decode cX8_rayNow 37 = .ok (.getfield 70, 3) := by decide +kernel
theorem dX8_rayNow_40 : decode cX8_rayNow 40 = .ok (.goto 8, 3) := by decide +kernel
theorem dX8_rayNow_43 : decode cX8_rayNow 43 = .ok (.aload_n 0, 1) := by decide +kernel
theorem dX8_rayNow_44 : decode cX8_rayNow 44 = .ok (.getfield 73, 3) := by decide +kernel
theorem dX8_rayNow_47 : decode cX8_rayNow 47 = .ok (.i2d, 1) := by decide +kernel
theorem dX8_rayNow_48 : decode cX8_rayNow 48 = .ok (.invokestatic 104, 3) := by decide +kernel
theorem dX8_rayNow_51 : decode cX8_rayNow 51 = .ok (.dreturn, 1) := by decide +kernel
set_option maxRecDepth 20000 in
theorem ggX8_ray_X8_is : GoodIn wsX8_ray wsX8_is := goodIn_r _ [5] rfl (by decide +kernel)
set_option maxRecDepth 20000 in
theorem gX8_ray_X8_is : GoodIn wsX8_ray (va_wsS RX8 48 yX8_is wsX8_is) := goodIn_app (goodIn_of _ (by decide +kernel)) ggX8_ray_X8_is
set_option maxRecDepth 20000 in
theorem ggX8_ray_X8_rayNow : GoodIn wsX8_ray wsX8_rayNow := goodIn_r _ [9, 10, 11, 12, 13, 14, 15, 16, 17, 4, 18, 19, 20, 21, 22, 23, 24, 25, 26, 27, 28, 29, 30, 31, 32, 33, 34, 35, 36, 37, 38, 39, 40, 41, 42, 43, 44, 45, 46, 47, 48, 49, 50, 51, 52, 53, 54, 55, 56, 57, 58, 59, 60, 61, 62, 63, 64] rfl (by decide +kernel)
set_option maxRecDepth 20000 in
theorem gX8_ray_X8_rayNow : GoodIn wsX8_ray (wsV RX8 128 RX8 yX8_rayNow wsX8_rayNow) := goodIn_app (goodIn_of _ (by decide +kernel)) ggX8_ray_X8_rayNow
theorem dX8_ray_0 : decode cX8_ray 0 = .ok (.aload_n 0, 1) := by decide +kernel
theorem dX8_ray_1 : decode cX8_ray 1 = .ok (.iload_n 1, 1) := by decide +kernel
theorem dX8_ray_2 : decode cX8_ray 2 = .ok (.bipush (-80), 2) := by decide +kernel
theorem dX8_ray_4 : decode cX8_ray 4 = .ok (.bipush 80, 2) := by decide +kernel
theorem dX8_ray_6 : decode cX8_ray 6 = .ok (.invokestatic 48, 3) := by decide +kernel
theorem dX8_ray_9 : decode cX8_ray 9 = .ok (.ifCond .eq 37, 3) := by decide +kernel
theorem dX8_ray_12 : decode cX8_ray 12 = .ok (.iload_n 2, 1) := by decide +kernel
theorem dX8_ray_13 : decode cX8_ray 13 = .ok (.bipush (-100), 2) := by decide +kernel
theorem dX8_ray_15 : decode cX8_ray 15 = .ok (.bipush 100, 2) := by decide +kernel
theorem dX8_ray_17 : decode cX8_ray 17 = .ok (.invokestatic 48, 3) := by decide +kernel
theorem dX8_ray_20 : decode cX8_ray 20 = .ok (.ifCond .eq 26, 3) := by decide +kernel
theorem dX8_ray_23 : decode cX8_ray 23 = .ok (.iload_n 3, 1) := by decide +kernel
theorem dX8_ray_24 : decode cX8_ray 24 = .ok (.iconst 0, 1) := by decide +kernel
theorem dX8_ray_25 : decode cX8_ray 25 = .ok (.iconst 2, 1) := by decide +kernel
theorem dX8_ray_26 : decode cX8_ray 26 = .ok (.invokestatic 48, 3) := by decide +kernel
theorem dX8_ray_29 : decode cX8_ray 29 = .ok (.ifCond .eq 17, 3) := by decide +kernel
theorem dX8_ray_32 : decode cX8_ray 32 = .ok (.iload 4, 2) := by decide +kernel
theorem dX8_ray_34 : decode cX8_ray 34 = .ok (.iconst 0, 1) := by decide +kernel
theorem dX8_ray_35 : decode cX8_ray 35 = .ok (.iconst 2, 1) := by decide +kernel
theorem dX8_ray_36 : decode cX8_ray 36 = .ok (.invokestatic 48, 3) := by decide +kernel
theorem dX8_ray_39 : decode cX8_ray 39 = .ok (.ifCond .eq 7, 3) := by decide +kernel
theorem dX8_ray_42 : decode cX8_ray 42 = .ok (.iconst 0, 1) := by decide +kernel
theorem dX8_ray_43 : decode cX8_ray 43 = .ok (.goto 4, 3) := by decide +kernel
theorem dX8_ray_46 : decode cX8_ray 46 = .ok (.iconst 1, 1) := by decide +kernel
theorem dX8_ray_47 : decode cX8_ray 47 = .ok (.putfield 29, 3) := by decide +kernel
theorem dX8_ray_50 : decode cX8_ray 50 = .ok (.aload_n 0, 1) := by decide +kernel
theorem dX8_ray_51 : decode cX8_ray 51 = .ok (.getfield 29, 3) := by decide +kernel
theorem dX8_ray_54 : decode cX8_ray 54 = .ok (.ifCond .ne 15, 3) := by decide +kernel
theorem dX8_ray_57 : decode cX8_ray 57 = .ok (.aload_n 0, 1) := by decide +kernel
theorem dX8_ray_58 : decode cX8_ray 58 = .ok (.iload_n 1, 1) := by decide +kernel
theorem dX8_ray_59 : decode cX8_ray 59 = .ok (.iload_n 2, 1) := by decide +kernel
theorem dX8_ray_60 : decode cX8_ray 60 = .ok (.iload_n 3, 1) := by decide +kernel
theorem dX8_ray_61 : decode cX8_ray 61 = .ok (.iload 4, 2) := by decide +kernel
theorem dX8_ray_63 : decode cX8_ray 63 = .ok (.invokevirtual 128, 3) := by decide +kernel
theorem dX8_ray_66 : decode cX8_ray 66 = .ok (.goto 4, 3) := by decide +kernel
theorem dX8_ray_69 : decode cX8_ray 69 = .ok (.dconst 0, 1) := by decide +kernel
theorem dX8_ray_70 : decode cX8_ray 70 = .ok (.dreturn, 1) := by decide +kernel
set_option maxRecDepth 20000 in
theorem ggX8_table_X8_is : GoodIn wsX8_table wsX8_is := goodIn_r _ [5] rfl (by decide +kernel)
set_option maxRecDepth 20000 in
theorem gX8_table_X8_is : GoodIn wsX8_table (va_wsS RX8 48 yX8_is wsX8_is) := goodIn_app (goodIn_of _ (by decide +kernel)) ggX8_table_X8_is
set_option maxRecDepth 20000 in
theorem ggX8_table_X8_tableNow : GoodIn wsX8_table wsX8_tableNow := goodIn_r _ [9, 10, 11, 12, 13, 14, 15, 4, 16, 17, 18, 19, 20, 21, 22, 23, 24, 25, 26, 27, 28, 29, 30, 31, 32, 33, 34, 35, 36, 37, 38, 39, 40, 41, 42, 43] rfl (by decide +kernel)
set_option maxRecDepth 20000 in
theorem gX8_table_X8_tableNow : GoodIn wsX8_table (wsV RX8 112 RX8 yX8_tableNow wsX8_tableNow) := goodIn_app (goodIn_of _ (by decide +kernel)) ggX8_table_X8_tableNow
theorem dX8_table_0 : decode cX8_table 0 = .ok (.aload_n 0, 1) := by decide +kernel
theorem dX8_table_1 : decode cX8_table 1 = .ok (.iload_n 1, 1) := by decide +kernel
theorem dX8_table_2 : decode cX8_table 2 = .ok (.iconst 0, 1) := by decide +kernel
theorem dX8_table_3 : decode cX8_table 3 = .ok (.iconst 2, 1) := by decide +kernel
theorem dX8_table_4 : decode cX8_table 4 = .ok (.invokestatic 48, 3) := by decide +kernel
theorem dX8_table_7 : decode cX8_table 7 = .ok (.ifCond .eq 16, 3) := by decide +kernel
theorem dX8_table_10 : decode cX8_table 10 = .ok (.iload_n 2, 1) := by decide +kernel
theorem dX8_table_11 : decode cX8_table 11 = .ok (.iconst 0, 1) := by decide +kernel
theorem dX8_table_12 : decode cX8_table 12 = .ok (.iconst 3, 1) := by decide +kernel
theorem dX8_table_13 : decode cX8_table 13 = .ok (.invokestatic 48, 3) := by decide +kernel
theorem dX8_table_16 : decode cX8_table 16 = .ok (.ifCond .eq 7, 3) := by decide +kernel
theorem dX8_table_19 : decode cX8_table 19 = .ok (.iconst 0, 1) := by decide +kernel
theorem dX8_table_20 : decode cX8_table 20 = .ok (.goto 4, 3) := by decide +kernel
theorem dX8_table_23 : decode cX8_table 23 = .ok (.iconst 1, 1) := by decide +kernel
theorem dX8_table_24 : decode cX8_table 24 = .ok (.putfield 29, 3) := by decide +kernel
theorem dX8_table_27 : decode cX8_table 27 = .ok (.aload_n 0, 1) := by decide +kernel
theorem dX8_table_28 : decode cX8_table 28 = .ok (.getfield 29, 3) := by decide +kernel
theorem dX8_table_31 : decode cX8_table 31 = .ok (.ifCond .ne 12, 3) := by decide +kernel
theorem dX8_table_34 : decode cX8_table 34 = .ok (.aload_n 0, 1) := by decide +kernel
theorem dX8_table_35 : decode cX8_table 35 = .ok (.iload_n 1, 1) := by decide +kernel
theorem dX8_table_36 : decode cX8_table 36 = .ok (.iload_n 2, 1) := by decide +kernel
theorem dX8_table_37 : decode cX8_table 37 = .ok (.invokevirtual 112, 3) := by decide +kernel
theorem dX8_table_40 : decode cX8_table 40 = .ok (.goto 4, 3) := by decide +kernel
theorem dX8_table_43 : decode cX8_table 43 = .ok (.dconst 0, 1) := by decide +kernel
theorem dX8_table_44 : decode cX8_table 44 = .ok (.dreturn, 1) := by decide +kernel
set_option maxRecDepth 20000 in
theorem ggX8_image_X8_is : GoodIn wsX8_image wsX8_is := goodIn_r _ [5] rfl (by decide +kernel)
set_option maxRecDepth 20000 in
theorem gX8_image_X8_is : GoodIn wsX8_image (va_wsS RX8 48 yX8_is wsX8_is) := goodIn_app (goodIn_of _ (by decide +kernel)) ggX8_image_X8_is
set_option maxRecDepth 20000 in
theorem ggX8_image_X8_imageNow : GoodIn wsX8_image wsX8_imageNow := goodIn_r _ [9, 10, 11, 12, 13, 4, 14, 15, 16, 17, 18, 19, 20, 21, 22, 23, 24, 25, 26, 27, 28, 29, 30, 31, 32, 33, 34, 35, 36, 37, 38, 39, 40, 41, 42, 43, 44, 45, 46, 47, 48, 49, 50, 51, 52, 53, 54, 55, 56, 57, 58, 59, 60, 61, 62, 63, 64, 65, 66, 67, 68] rfl (by decide +kernel)
set_option maxRecDepth 20000 in
theorem gX8_image_X8_imageNow : GoodIn wsX8_image (wsV RX8 132 RX8 yX8_imageNow wsX8_imageNow) := goodIn_app (goodIn_of _ (by decide +kernel)) ggX8_image_X8_imageNow
theorem dX8_image_0 : decode cX8_image 0 = .ok (.aload_n 0, 1) := by decide +kernel
theorem dX8_image_1 : decode cX8_image 1 = .ok (.iload_n 1, 1) := by decide +kernel
theorem dX8_image_2 : decode cX8_image 2 = .ok (.iconst 0, 1) := by decide +kernel
theorem dX8_image_3 : decode cX8_image 3 = .ok (.iconst 2, 1) := by decide +kernel
theorem dX8_image_4 : decode cX8_image 4 = .ok (.invokestatic 48, 3) := by decide +kernel
theorem dX8_image_7 : decode cX8_image 7 = .ok (.ifCond .eq 16, 3) := by decide +kernel
theorem dX8_image_10 : decode cX8_image 10 = .ok (.iload_n 2, 1) := by decide +kernel
theorem dX8_image_11 : decode cX8_image 11 = .ok (.iconst 0, 1) := by decide +kernel
theorem dX8_image_12 : decode cX8_image 12 = .ok (.iconst 4, 1) := by decide +kernel
theorem dX8_image_13 : decode cX8_image 13 = .ok (.invokestatic 48, 3) := by decide +kernel
theorem dX8_image_16 : decode cX8_image 16 = .ok (.ifCond .eq 7, 3) := by decide +kernel
theorem dX8_image_19 : decode cX8_image 19 = .ok (.iconst 0, 1) := by decide +kernel
theorem dX8_image_20 : decode cX8_image 20 = .ok (.goto 4, 3) := by decide +kernel
theorem dX8_image_23 : decode cX8_image 23 = .ok (.iconst 1, 1) := by decide +kernel
theorem dX8_image_24 : decode cX8_image 24 = .ok (.putfield 29, 3) := by decide +kernel
theorem dX8_image_27 : decode cX8_image 27 = .ok (.aload_n 0, 1) := by decide +kernel
theorem dX8_image_28 : decode cX8_image 28 = .ok (.getfield 29, 3) := by decide +kernel
theorem dX8_image_31 : decode cX8_image 31 = .ok (.ifCond .ne 12, 3) := by decide +kernel
theorem dX8_image_34 : decode cX8_image 34 = .ok (.aload_n 0, 1) := by decide +kernel
theorem dX8_image_35 : decode cX8_image 35 = .ok (.iload_n 1, 1) := by decide +kernel
theorem dX8_image_36 : decode cX8_image 36 = .ok (.iload_n 2, 1) := by decide +kernel
theorem dX8_image_37 : decode cX8_image 37 = .ok (.invokevirtual 132, 3) := by decide +kernel
theorem dX8_image_40 : decode cX8_image 40 = .ok (.goto 4, 3) := by decide +kernel
theorem dX8_image_43 : decode cX8_image 43 = .ok (.dconst 0, 1) := by decide +kernel
theorem dX8_image_44 : decode cX8_image 44 = .ok (.dreturn, 1) := by decide +kernel
set_option maxRecDepth 20000 in
theorem ggX8_manyNow_X8_next : GoodIn wsX8_manyNow wsX8_next := goodIn_r _ [12, 2, 4, 5, 52, 53, 54, 55, 56, 57, 58, 59, 60, 61, 62, 63, 64, 65] rfl (by decide +kernel)
set_option maxRecDepth 20000 in
theorem gX8_manyNow_X8_next : GoodIn wsX8_manyNow (wsV RX8 76 RX8 yX8_next wsX8_next) := goodIn_app (goodIn_of _ (by decide +kernel)) ggX8_manyNow_X8_next
set_option maxRecDepth 20000 in
theorem ggX8_manyNow_X8_opening : GoodIn wsX8_manyNow wsX8_opening := goodIn_r _ [16, 1, 17, 4, 18, 19, 3, 8, 9, 10, 11, 12, 2, 5, 20, 21, 22, 23, 24, 25, 26, 27, 28, 29, 30, 31, 32, 33, 34, 35, 36, 37, 38, 39, 52, 53, 54, 55, 56, 57, 58, 59, 60, 61, 62, 63, 64, 65] rfl (by decide +kernel)
set_option maxRecDepth 20000 in
theorem gX8_manyNow_X8_opening : GoodIn wsX8_manyNow (wsV RX8 135 RX8 yX8_opening wsX8_opening) := goodIn_app (goodIn_of _ (by decide +kernel)) ggX8_manyNow_X8_opening
set_option maxRecDepth 20000 in
theorem ggX8_manyNow_X8_light : GoodIn wsX8_manyNow wsX8_light := goodIn_r _ [43, 7, 44, 45, 46, 47, 48, 49, 11, 50, 17, 51, 1, 4, 18, 3, 5, 8, 9, 10, 12, 2, 20, 21, 22, 23, 24, 25, 26, 27, 28, 29, 30, 31, 32, 33, 34, 35, 36, 37, 38, 39, 52, 53, 54, 55, 56, 57, 58, 59, 60, 61, 62, 63, 64, 65] rfl (by decide +kernel)
set_option maxRecDepth 20000 in
theorem gX8_manyNow_X8_light : GoodIn wsX8_manyNow (wsV RX8 139 RX8 yX8_light wsX8_light) := goodIn_app (goodIn_of _ (by decide +kernel)) ggX8_manyNow_X8_light
theorem dX8_manyNow_0 : decode cX8_manyNow 0 = .ok (.iconst 0, 1) := by decide +kernel
theorem dX8_manyNow_1 : decode cX8_manyNow 1 = .ok (.istore_n 2, 1) := by decide +kernel
theorem dX8_manyNow_2 : decode cX8_manyNow 2 = .ok (.iconst 0, 1) := by decide +kernel
theorem dX8_manyNow_3 : decode cX8_manyNow 3 = .ok (.istore_n 3, 1) := by decide +kernel
theorem dX8_manyNow_4 : decode cX8_manyNow 4 = .ok (.aload_n 0, 1) := by decide +kernel
theorem dX8_manyNow_5 : decode cX8_manyNow 5 = .ok (.getfield 60, 3) := by decide +kernel
theorem dX8_manyNow_8 : decode cX8_manyNow 8 = .ok (.istore 4, 2) := by decide +kernel
theorem dX8_manyNow_10 : decode cX8_manyNow 10 = .ok (.iconst 0, 1) := by decide +kernel
theorem dX8_manyNow_11 : decode cX8_manyNow 11 = .ok (.istore 5, 2) := by decide +kernel
theorem dX8_manyNow_13 : decode cX8_manyNow 13 = .ok (.iload 5, 2) := by decide +kernel
theorem dX8_manyNow_15 : decode cX8_manyNow 15 = .ok (.aload_n 0, 1) := by decide +kernel
theorem dX8_manyNow_16 : decode cX8_manyNow 16 = .ok (.getfield 32, 3) := by decide +kernel
theorem dX8_manyNow_19 : decode cX8_manyNow 19 = .ok (.if_icmp .ge 27, 3) := by decide +kernel
theorem dX8_manyNow_22 : decode cX8_manyNow 22 = .ok (.iload_n 2, 1) := by decide +kernel
