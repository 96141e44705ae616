theorem dX6_addColour_44 : decode cX6_addColour 44 = .ok (.iload_n 3, 1) := by decide +kernel
theorem dX6_addColour_45 : decode cX6_addColour 45 = .ok (.iload 6, 2) := by decide +kernel
theorem dX6_addColour_47 : decode cX6_addColour 47 = .ok (.invokevirtual 306, 3) := by decide +kernel
theorem dX6_addColour_50 : decode cX6_addColour 50 = .ok (.invokestatic 275, 3) := by decide +kernel
theorem dX6_addColour_53 : decode cX6_addColour 53 = .ok (.lstore 4, 2) := by decide +kernel
theorem dX6_addColour_55 : decode cX6_addColour 55 = .ok (.iinc 6 1, 3) := by decide +kernel
theorem dX6_addColour_58 : decode cX6_addColour 58 = .ok (.goto (-23), 3) := by decide +kernel
theorem dX6_addColour_61 : decode cX6_addColour 61 = .ok (.lload 4, 2) := by decide +kernel
theorem dX6_addColour_63 : decode cX6_addColour 63 = .ok (.aload_n 0, 1) := by decide +kernel
theorem dX6_addColour_64 : decode cX6_addColour 64 = .ok (.iload_n 3, 1) := by decide +kernel
theorem dX6_addColour_65 : decode cX6_addColour 65 = .ok (.invokevirtual 309, 3) := by decide +kernel
theorem dX6_addColour_68 : decode cX6_addColour 68 = .ok (.invokestatic 275, 3) := by decide +kernel
theorem dX6_addColour_71 : decode cX6_addColour 71 = .ok (.lreturn, 1) := by decide +kernel
theorem dX6_addWhole_0 : decode cX6_addWhole 0 = .ok (.lload_n 0, 1) := by decide +kernel
theorem dX6_addWhole_1 : decode cX6_addWhole 1 = .ok (.ldc2_w 313, 3) := by decide +kernel
theorem dX6_addWhole_4 : decode cX6_addWhole 4 = .ok (.lmul, 1) := by decide +kernel
theorem dX6_addWhole_5 : decode cX6_addWhole 5 = .ok (.lload_n 2, 1) := by decide +kernel
theorem dX6_addWhole_6 : decode cX6_addWhole 6 = .ok (.ladd, 1) := by decide +kernel
theorem dX6_addWhole_7 : decode cX6_addWhole 7 = .ok (.lreturn, 1) := by decide +kernel
set_option maxRecDepth 20000 in
theorem ggX6_addDouble_X6_addWhole : GoodIn wsX6_addDouble wsX6_addWhole := goodIn_r _ [5, 6] rfl (by decide +kernel)
set_option maxRecDepth 20000 in
theorem gX6_addDouble_X6_addWhole : GoodIn wsX6_addDouble (va_wsS RX6 261 yX6_addWhole wsX6_addWhole) := goodIn_app (goodIn_of _ (by decide +kernel)) ggX6_addDouble_X6_addWhole
theorem dX6_addDouble_0 : decode cX6_addDouble 0 = .ok (.lload_n 0, 1) := by decide +kernel
theorem dX6_addDouble_1 : decode cX6_addDouble 1 = .ok (.ldc2_w 315, 3) := by decide +kernel
theorem dX6_addDouble_4 : decode cX6_addDouble 4 = .ok (.dload_n 2, 1) := by decide +kernel
theorem dX6_addDouble_5 : decode cX6_addDouble 5 = .ok (.dmul, 1) := by decide +kernel
theorem dX6_addDouble_6 : decode cX6_addDouble 6 = .ok (.d2l, 1) := by decide +kernel
theorem dX6_addDouble_7 : decode cX6_addDouble 7 = .ok (.invokestatic 261, 3) := by decide +kernel
theorem dX6_addDouble_10 : decode cX6_addDouble 10 = .ok (.lreturn, 1) := by decide +kernel
theorem dX6_needPlace_0 : decode cX6_needPlace 0 = .ok (.iload_n 0, 1) := by decide +kernel
theorem dX6_needPlace_1 : decode cX6_needPlace 1 = .ok (.ifCond .lt 9, 3) := by decide +kernel
theorem dX6_needPlace_4 : decode cX6_needPlace 4 = .ok (.iload_n 0, 1) := by decide +kernel
theorem dX6_needPlace_5 : decode cX6_needPlace 5 = .ok (.bipush 99, 2) := by decide +kernel
theorem dX6_needPlace_7 : decode cX6_needPlace 7 = .ok (.if_icmp .le 14, 3) := by decide +kernel
theorem dX6_needPlace_10 : decode cX6_needPlace 10 = .ok (.new 317, 3) := by decide +kernel
theorem dX6_needPlace_13 : decode cX6_needPlace 13 = .ok (.dup, 1) := by decide +kernel
theorem dX6_needPlace_14 : decode cX6_needPlace 14 = .ok (.ldc_w 319, 3) := by decide +kernel
theorem dX6_needPlace_17 : decode cX6_needPlace 17 = .ok (.invokespecial 321, 3) := by decide +kernel
theorem dX6_needPlace_20 : decode cX6_needPlace 20 = .ok (.athrow, 1) := by decide +kernel
theorem dX6_needPlace_21 : decode cX6_needPlace 21 = .ok (.return_, 1) := by decide +kernel
theorem dX6_needHalf_0 : decode cX6_needHalf 0 = .ok (.iload_n 0, 1) := by decide +kernel
theorem dX6_needHalf_1 : decode cX6_needHalf 1 = .ok (.iconst 1, 1) := by decide +kernel
theorem dX6_needHalf_2 : decode cX6_needHalf 2 = .ok (.if_icmp .lt 9, 3) := by decide +kernel
theorem dX6_needHalf_5 : decode cX6_needHalf 5 = .ok (.iload_n 0, 1) := by decide +kernel
theorem dX6_needHalf_6 : decode cX6_needHalf 6 = .ok (.bipush 20, 2) := by decide +kernel
theorem dX6_needHalf_8 : decode cX6_needHalf 8 = .ok (.if_icmp .le 14, 3) := by decide +kernel
theorem dX6_needHalf_11 : decode cX6_needHalf 11 = .ok (.new 78, 3) := by decide +kernel
theorem dX6_needHalf_14 : decode cX6_needHalf 14 = .ok (.dup, 1) := by decide +kernel
theorem dX6_needHalf_15 : decode cX6_needHalf 15 = .ok (.ldc_w 322, 3) := by decide +kernel
theorem dX6_needHalf_18 : decode cX6_needHalf 18 = .ok (.invokespecial 82, 3) := by decide +kernel
theorem dX6_needHalf_21 : decode cX6_needHalf 21 = .ok (.athrow, 1) := by decide +kernel
theorem dX6_needHalf_22 : decode cX6_needHalf 22 = .ok (.return_, 1) := by decide +kernel
theorem dX6_needColour_0 : decode cX6_needColour 0 = .ok (.iload_n 0, 1) := by decide +kernel
theorem dX6_needColour_1 : decode cX6_needColour 1 = .ok (.ifCond .lt 8, 3) := by decide +kernel
theorem dX6_needColour_4 : decode cX6_needColour 4 = .ok (.iload_n 0, 1) := by decide +kernel
theorem dX6_needColour_5 : decode cX6_needColour 5 = .ok (.iconst 2, 1) := by decide +kernel
theorem dX6_needColour_6 : decode cX6_needColour 6 = .ok (.if_icmp .le 14, 3) := by decide +kernel
theorem dX6_needColour_9 : decode cX6_needColour 9 = .ok (.new 78, 3) := by decide +kernel
theorem dX6_needColour_12 : decode cX6_needColour 12 = .ok (.dup, 1) := by decide +kernel
theorem dX6_needColour_13 : decode cX6_needColour 13 = .ok (.ldc_w 324, 3) := by decide +kernel
theorem dX6_needColour_16 : decode cX6_needColour 16 = .ok (.invokespecial 82, 3) := by decide +kernel
theorem dX6_needColour_19 : decode cX6_needColour 19 = .ok (.athrow, 1) := by decide +kernel
theorem dX6_needColour_20 : decode cX6_needColour 20 = .ok (.return_, 1) := by decide +kernel
theorem dX6_needWhat_0 : decode cX6_needWhat 0 = .ok (.iload_n 0, 1) := by decide +kernel
theorem dX6_needWhat_1 : decode cX6_needWhat 1 = .ok (.ifCond .lt 8, 3) := by decide +kernel
theorem dX6_needWhat_4 : decode cX6_needWhat 4 = .ok (.iload_n 0, 1) := by decide +kernel
theorem dX6_needWhat_5 : decode cX6_needWhat 5 = .ok (.iload_n 1, 1) := by decide +kernel
theorem dX6_needWhat_6 : decode cX6_needWhat 6 = .ok (.if_icmp .le 14, 3) := by decide +kernel
theorem dX6_needWhat_9 : decode cX6_needWhat 9 = .ok (.new 78, 3) := by decide +kernel
theorem dX6_needWhat_12 : decode cX6_needWhat 12 = .ok (.dup, 1) := by decide +kernel
theorem dX6_needWhat_13 : decode cX6_needWhat 13 = .ok (.ldc_w 326, 3) := by decide +kernel
theorem dX6_needWhat_16 : decode cX6_needWhat 16 = .ok (.invokespecial 82, 3) := by decide +kernel
theorem dX6_needWhat_19 : decode cX6_needWhat 19 = .ok (.athrow, 1) := by decide +kernel
theorem dX6_needWhat_20 : decode cX6_needWhat 20 = .ok (.return_, 1) := by decide +kernel
set_option maxRecDepth 20000 in
theorem ggX6_needPiece_X6_isPiece : GoodIn wsX6_needPiece wsX6_isPiece := goodIn_r _ [7, 8, 9, 10, 11, 12, 13, 14, 15, 16, 17, 18, 19, 20, 21, 22, 23] rfl (by decide +kernel)
set_option maxRecDepth 20000 in
theorem gX6_needPiece_X6_isPiece : GoodIn wsX6_needPiece (wsV RX6 328 RX6 yX6_isPiece wsX6_isPiece) := goodIn_app (goodIn_of _ (by decide +kernel)) ggX6_needPiece_X6_isPiece
theorem dX6_needPiece_0 : decode cX6_needPiece 0 = .ok (.aload_n 0, 1) := by decide +kernel
theorem dX6_needPiece_1 : decode cX6_needPiece 1 = .ok (.iload_n 1, 1) := by decide +kernel
theorem dX6_needPiece_2 : decode cX6_needPiece 2 = .ok (.invokevirtual 328, 3) := by decide +kernel
theorem dX6_needPiece_5 : decode cX6_needPiece 5 = .ok (.ifCond .ne 14, 3) := by decide +kernel
theorem dX6_needPiece_8 : decode cX6_needPiece 8 = .ok (.new 317, 3) := by decide +kernel
theorem dX6_needPiece_11 : decode cX6_needPiece 11 = .ok (.dup, 1) := by decide +kernel
theorem dX6_needPiece_12 : decode cX6_needPiece 12 = .ok (.ldc_w 332, 3) := by decide +kernel
theorem dX6_needPiece_15 : decode cX6_needPiece 15 = .ok (.invokespecial 321, 3) := by decide +kernel
theorem dX6_needPiece_18 : decode cX6_needPiece 18 = .ok (.athrow, 1) := by decide +kernel
theorem dX6_needPiece_19 : decode cX6_needPiece 19 = .ok (.return_, 1) := by decide +kernel
theorem dX6_isPiece_0 : decode cX6_isPiece 0 = .ok (.iload_n 1, 1) := by decide +kernel
theorem dX6_isPiece_1 : decode cX6_isPiece 1 = .ok (.ifCond .lt 21, 3) := by decide +kernel
theorem dX6_isPiece_4 : decode cX6_isPiece 4 = .ok (.iload_n 1, 1) := by decide +kernel
theorem dX6_isPiece_5 : decode cX6_isPiece 5 = .ok (.aload_n 0, 1) := by decide +kernel
theorem dX6_isPiece_6 : decode cX6_isPiece 6 = .ok (.getfield 94, 3) := by decide +kernel
theorem dX6_isPiece_9 : decode cX6_isPiece 9 = .ok (.if_icmp .ge 13, 3) := by decide +kernel
theorem dX6_isPiece_12 : decode cX6_isPiece 12 = .ok (.iload_n 1, 1) := by decide +kernel
theorem dX6_isPiece_13 : decode cX6_isPiece 13 = .ok (.bipush 8, 2) := by decide +kernel
theorem dX6_isPiece_15 : decode cX6_isPiece 15 = .ok (.if_icmp .ge 7, 3) := by decide +kernel
theorem dX6_isPiece_18 : decode cX6_isPiece 18 = .ok (.iconst 1, 1) := by decide +kernel
theorem dX6_isPiece_19 : decode cX6_isPiece 19 = .ok (.goto 4, 3) := by decide +kernel
theorem dX6_isPiece_22 : decode cX6_isPiece 22 = .ok (.iconst 0, 1) := by decide +kernel
theorem dX6_isPiece_23 : decode cX6_isPiece 23 = .ok (.ireturn, 1) := by decide +kernel
set_option maxRecDepth 20000 in
theorem ggX6_put_X6_isTakenByOther : GoodIn wsX6_put wsX6_isTakenByOther := goodIn_r _ [12, 3, 4, 13, 14, 15, 16, 17, 18, 19, 20, 21, 22, 23, 24, 25, 26, 27] rfl (by decide +kernel)
set_option maxRecDepth 20000 in
theorem gX6_put_X6_isTakenByOther : GoodIn wsX6_put (wsV RX6 97 RX6 yX6_isTakenByOther wsX6_isTakenByOther) := goodIn_app (goodIn_of _ (by decide +kernel)) ggX6_put_X6_isTakenByOther
theorem dX6_put_0 : decode cX6_put 0 = .ok (.aload_n 0, 1) := by decide +kernel
theorem dX6_put_1 : decode cX6_put 1 = .ok (.getfield 94, 3) := by decide +kernel
theorem dX6_put_4 : decode cX6_put 4 = .ok (.bipush 8, 2) := by decide +kernel
theorem dX6_put_6 : decode cX6_put 6 = .ok (.if_icmp .lt 14, 3) := by decide +kernel
theorem dX6_put_9 : decode cX6_put 9 = .ok (.new 101, 3) := by decide +kernel
theorem dX6_put_12 : decode cX6_put 12 = .ok (.dup, 1) := by decide +kernel
theorem dX6_put_13 : decode cX6_put 13 = .ok (.ldc_w 334, 3) := by decide +kernel
theorem dX6_put_16 : decode cX6_put 16 = .ok (.invokespecial 105, 3) := by decide +kernel
theorem dX6_put_19 : decode cX6_put 19 = .ok (.athrow, 1) := by decide +kernel
theorem dX6_put_20 : decode cX6_put 20 = .ok (.aload_n 0, 1) := by decide +kernel
theorem dX6_put_21 : decode cX6_put 21 = .ok (.iload_n 1, 1) := by decide +kernel
theorem dX6_put_22 : decode cX6_put 22 = .ok (.iconst (-1), 1) := by decide +kernel
theorem dX6_put_23 : decode cX6_put 23 = .ok (.invokevirtual 97, 3) := by decide +kernel
theorem dX6_put_26 : decode cX6_put 26 = .ok (.ifCond .eq 14, 3) := by decide +kernel
theorem dX6_put_29 : decode cX6_put 29 = .ok (.new 101, 3) := by decide +kernel
theorem dX6_put_32 : decode cX6_put 32 = .ok (.dup, 1) := by decide +kernel
theorem dX6_put_33 : decode cX6_put 33 = .ok (.ldc_w 336, 3) := by decide +kernel
theorem dX6_put_36 : decode cX6_put 36 = .ok (.invokespecial 105, 3) := by decide +kernel
theorem dX6_put_39 : decode cX6_put 39 = .ok (.athrow, 1) := by decide +kernel
theorem dX6_put_40 : decode cX6_put 40 = .ok (.aload_n 0, 1) := by decide +kernel
theorem dX6_put_41 : decode cX6_put 41 = .ok (.getfield 9, 3) := by decide +kernel
theorem dX6_put_44 : decode cX6_put 44 = .ok (.aload_n 0, 1) := by decide +kernel
theorem dX6_put_45 : decode cX6_put 45 = .ok (.getfield 94, 3) := by decide +kernel
theorem dX6_put_48 : decode cX6_put 48 = .ok (.iload_n 1, 1) := by decide +kernel
theorem dX6_put_49 : decode cX6_put 49 = .ok (.iastore, 1) := by decide +kernel
theorem dX6_put_50 : decode cX6_put 50 = .ok (.aload_n 0, 1) := by decide +kernel
theorem dX6_put_51 : decode cX6_put 51 = .ok (.getfield 13, 3) := by decide +kernel
theorem dX6_put_54 : decode cX6_put 54 = .ok (.aload_n 0, 1) := by decide +kernel
theorem dX6_put_55 : decode cX6_put 55 = .ok (.getfield 94, 3) := by decide +kernel
theorem dX6_put_58 : decode cX6_put 58 = .ok (.iload_n 2, 1) := by decide +kernel
theorem dX6_put_59 : decode cX6_put 59 = .ok (.iastore, 1) := by decide +kernel
theorem dX6_put_60 : decode cX6_put 60 = .ok (.aload_n 0, 1) := by decide +kernel
theorem dX6_put_61 : decode cX6_put 61 = .ok (.getfield 16, 3) := by decide +kernel
theorem dX6_put_64 : decode cX6_put 64 = .ok (.aload_n 0, 1) := by decide +kernel
theorem dX6_put_65 : decode cX6_put 65 = .ok (.getfield 94, 3) := by decide +kernel
theorem dX6_put_68 : decode cX6_put 68 = .ok (.iload_n 3, 1) := by decide +kernel
theorem dX6_put_69 : decode cX6_put 69 = .ok (.iastore, 1) := by decide +kernel
theorem dX6_put_70 : decode cX6_put 70 = .ok (.aload_n 0, 1) := by decide +kernel
theorem dX6_put_71 : decode cX6_put 71 = .ok (.getfield 19, 3) := by decide +kernel
theorem dX6_put_74 : decode cX6_put 74 = .ok (.aload_n 0, 1) := by decide +kernel
theorem dX6_put_75 : decode cX6_put 75 = .ok (.getfield 94, 3) := by decide +kernel
theorem dX6_put_78 : decode cX6_put 78 = .ok (.iload 4, 2) := by decide +kernel
theorem dX6_put_80 : decode cX6_put 80 = .ok (.iastore, 1) := by decide +kernel
theorem dX6_put_81 : decode cX6_put 81 = .ok (.aload_n 0, 1) := by decide +kernel
theorem dX6_put_82 : decode cX6_put 82 = .ok (.dup, 1) := by decide +kernel
theorem dX6_put_83 : decode cX6_put 83 = .ok (.getfield 94, 3) := by decide +kernel
theorem dX6_put_86 : decode cX6_put 86 = .ok (.iconst 1, 1) := by decide +kernel
theorem dX6_put_87 : decode cX6_put 87 = .ok (.iadd, 1) := by decide +kernel
theorem dX6_put_88 : decode cX6_put 88 = .ok (.putfield 94, 3) := by decide +kernel
theorem dX6_put_91 : decode cX6_put 91 = .ok (.aload_n 0, 1) := by decide +kernel
theorem dX6_put_92 : decode cX6_put 92 = .ok (.getfield 94, 3) := by decide +kernel
theorem dX6_put_95 : decode cX6_put 95 = .ok (.iconst 1, 1) := by decide +kernel
theorem dX6_put_96 : decode cX6_put 96 = .ok (.isub, 1) := by decide +kernel
theorem dX6_put_97 : decode cX6_put 97 = .ok (.ireturn, 1) := by decide +kernel
theorem dX6_isTakenByOther_0 : decode cX6_isTakenByOther 0 = .ok (.iconst 0, 1) := by decide +kernel
theorem dX6_isTakenByOther_1 : decode cX6_isTakenByOther 1 = .ok (.istore_n 3, 1) := by decide +kernel
theorem dX6_isTakenByOther_2 : decode cX6_isTakenByOther 2 = .ok (.iload_n 3, 1) := by decide +kernel
theorem dX6_isTakenByOther_3 : decode cX6_isTakenByOther 3 = .ok (.aload_n 0, 1) := by decide +kernel
theorem dX6_isTakenByOther_4 : decode cX6_isTakenByOther 4 = .ok (.getfield 94, 3) := by decide +kernel
theorem dX6_isTakenByOther_7 : decode cX6_isTakenByOther 7 = .ok (.if_icmp .ge 26, 3) := by decide +kernel
theorem dX6_isTakenByOther_10 : decode cX6_isTakenByOther 10 = .ok (.iload_n 3, 1) := by decide +kernel
theorem dX6_isTakenByOther_11 : decode cX6_isTakenByOther 11 = .ok (.iload_n 2, 1) := by decide +kernel
theorem dX6_isTakenByOther_12 : decode cX6_isTakenByOther 12 = .ok (.if_icmp .eq 15, 3) := by decide +kernel
theorem dX6_isTakenByOther_15 : decode cX6_isTakenByOther 15 = .ok (.aload_n 0, 1) := by decide +kernel
theorem dX6_isTakenByOther_16 : decode cX6_isTakenByOther 16 = .ok (.getfield 9, 3) := by decide +kernel
theorem dX6_isTakenByOther_19 : decode cX6_isTakenByOther 19 = .ok (.iload_n 3, 1) := by decide +kernel
theorem dX6_isTakenByOther_20 : decode cX6_isTakenByOther 20 = .ok (.iaload, 1) := by decide +kernel
theorem dX6_isTakenByOther_21 : decode cX6_isTakenByOther 21 = .ok (.iload_n 1, 1) := by decide +kernel
theorem dX6_isTakenByOther_22 : decode cX6_isTakenByOther 22 = .ok (.if_icmp .ne 5, 3) := by decide +kernel
theorem dX6_isTakenByOther_25 : decode cX6_isTakenByOther 25 = .ok (.iconst 1, 1) := by decide +kernel
theorem dX6_isTakenByOther_26 : decode cX6_isTakenByOther 26 = .ok (.ireturn, 1) := by decide +kernel
theorem dX6_isTakenByOther_27 : decode cX6_isTakenByOther 27 = .ok (.iinc 3 1, 3) := by decide +kernel
theorem dX6_isTakenByOther_30 : decode cX6_isTakenByOther 30 = .ok (.goto (-28), 3) := by decide +kernel
theorem dX6_isTakenByOther_33 : decode cX6_isTakenByOther 33 = .ok (.iconst 0, 1) := by decide +kernel
theorem dX6_isTakenByOther_34 : decode cX6_isTakenByOther 34 = .ok (.ireturn, 1) := by decide +kernel
theorem dX6_countLenses_0 : decode cX6_countLenses 0 = .ok (.iconst 0, 1) := by decide +kernel
theorem dX6_countLenses_1 : decode cX6_countLenses 1 = .ok (.istore_n 1, 1) := by decide +kernel
theorem dX6_countLenses_2 : decode cX6_countLenses 2 = .ok (.iconst 0, 1) := by decide +kernel
theorem dX6_countLenses_3 : decode cX6_countLenses 3 = .ok (.istore_n 2, 1) := by decide +kernel
theorem dX6_countLenses_4 : decode cX6_countLenses 4 = .ok (.iload_n 2, 1) := by decide +kernel
theorem dX6_countLenses_5 : decode cX6_countLenses 5 = .ok (.aload_n 0, 1) := by decide +kernel
theorem dX6_countLenses_6 : decode cX6_countLenses 6 = .ok (.getfield 94, 3) := by decide +kernel
theorem dX6_countLenses_9 : decode cX6_countLenses 9 = .ok (.if_icmp .ge 21, 3) := by decide +kernel
theorem dX6_countLenses_12 : decode cX6_countLenses 12 = .ok (.aload_n 0, 1) := by decide +kernel
theorem dX6_countLenses_13 : decode cX6_countLenses 13 = .ok (.getfield 16, 3) := by decide +kernel
theorem dX6_countLenses_16 : decode cX6_countLenses 16 = .ok (.iload_n 2, 1) := by decide +kernel
theorem dX6_countLenses_17 : decode cX6_countLenses 17 = .ok (.iaload, 1) := by decide +kernel
theorem dX6_countLenses_18 : decode cX6_countLenses 18 = .ok (.ifCond .eq 6, 3) := by decide +kernel
theorem dX6_countLenses_21 : decode cX6_countLenses 21 = .ok (.iinc 1 1, 3) := by decide +kernel
theorem dX6_countLenses_24 : decode cX6_countLenses 24 = .ok (.iinc 2 1, 3) := by decide +kernel
theorem dX6_countLenses_27 : decode cX6_countLenses 27 = .ok (.goto (-23), 3) := by decide +kernel
theorem dX6_countLenses_30 : decode cX6_countLenses 30 = .ok (.iload_n 1, 1) := by decide +kernel
theorem dX6_countLenses_31 : decode cX6_countLenses 31 = .ok (.ireturn, 1) := by decide +kernel
set_option maxRecDepth 20000 in
theorem ggX6_powerOf_X6_isPiece : GoodIn wsX6_powerOf wsX6_isPiece := goodIn_r _ [6, 7, 8, 9, 10, 11, 12, 13, 14, 15, 16, 17, 18, 19, 20, 21, 22] rfl (by decide +kernel)
set_option maxRecDepth 20000 in
theorem gX6_powerOf_X6_isPiece : GoodIn wsX6_powerOf (wsV RX6 328 RX6 yX6_isPiece wsX6_isPiece) := goodIn_app (goodIn_of _ (by decide +kernel)) ggX6_powerOf_X6_isPiece
theorem dX6_powerOf_0 : decode cX6_powerOf 0 = .ok (.aload_n 0, 1) := by decide +kernel
theorem dX6_powerOf_1 : decode cX6_powerOf 1 = .ok (.iload_n 1, 1) := by decide +kernel
theorem dX6_powerOf_2 : decode cX6_powerOf 2 = .ok (.invokevirtual 328, 3) := by decide +kernel
theorem dX6_powerOf_5 : decode cX6_powerOf 5 = .ok (.ifCond .eq 12, 3) := by decide +kernel
theorem dX6_powerOf_8 : decode cX6_powerOf 8 = .ok (.aload_n 0, 1) := by decide +kernel
theorem dX6_powerOf_9 : decode cX6_powerOf 9 = .ok (.getfield 16, 3) := by decide +kernel
theorem dX6_powerOf_12 : decode cX6_powerOf 12 = .ok (.iload_n 1, 1) := by decide +kernel
theorem dX6_powerOf_13 : decode cX6_powerOf 13 = .ok (.iaload, 1) := by decide +kernel
theorem dX6_powerOf_14 : decode cX6_powerOf 14 = .ok (.goto 4, 3) := by decide +kernel
theorem dX6_powerOf_17 : decode cX6_powerOf 17 = .ok (.iconst 0, 1) := by decide +kernel
theorem dX6_powerOf_18 : decode cX6_powerOf 18 = .ok (.ireturn, 1) := by decide +kernel
theorem dX6_signOf_0 : decode cX6_signOf 0 = .ok (.iload_n 0, 1) := by decide +kernel
theorem dX6_signOf_1 : decode cX6_signOf 1 = .ok (.ifCond .ne 6, 3) := by decide +kernel
theorem dX6_signOf_4 : decode cX6_signOf 4 = .ok (.bipush 124, 2) := by decide +kernel
theorem dX6_signOf_6 : decode cX6_signOf 6 = .ok (.ireturn, 1) := by decide +kernel
theorem dX6_signOf_7 : decode cX6_signOf 7 = .ok (.iload_n 0, 1) := by decide +kernel
theorem dX6_signOf_8 : decode cX6_signOf 8 = .ok (.ifCond .le 8, 3) := by decide +kernel
theorem dX6_signOf_11 : decode cX6_signOf 11 = .ok (.bipush 40, 2) := by decide +kernel
theorem dX6_signOf_13 : decode cX6_signOf 13 = .ok (.goto 5, 3) := by decide +kernel
theorem dX6_signOf_16 : decode cX6_signOf 16 = .ok (.bipush 41, 2) := by decide +kernel
theorem dX6_signOf_18 : decode cX6_signOf 18 = .ok (.ireturn, 1) := by decide +kernel
theorem dX6_bendOf_0 : decode cX6_bendOf 0 = .ok (.iload_n 0, 1) := by decide +kernel
theorem dX6_bendOf_1 : decode cX6_bendOf 1 = .ok (.ifCond .ne 5, 3) := by decide +kernel
theorem dX6_bendOf_4 : decode cX6_bendOf 4 = .ok (.dconst 0, 1) := by decide +kernel
theorem dX6_bendOf_5 : decode cX6_bendOf 5 = .ok (.dreturn, 1) := by decide +kernel
theorem dX6_bendOf_6 : decode cX6_bendOf 6 = .ok (.iload_n 1, 1) := by decide +kernel
theorem dX6_bendOf_7 : decode cX6_bendOf 7 = .ok (.iconst 1, 1) := by decide +kernel
theorem dX6_bendOf_8 : decode cX6_bendOf 8 = .ok (.if_icmp .ne 9, 3) := by decide +kernel
theorem dX6_bendOf_11 : decode cX6_bendOf 11 = .ok (.ldc2_w 338, 3) := by decide +kernel
theorem dX6_bendOf_14 : decode cX6_bendOf 14 = .ok (.goto 15, 3) := by decide +kernel
theorem dX6_bendOf_17 : decode cX6_bendOf 17 = .ok (.iload_n 1, 1) := by decide +kernel
theorem dX6_bendOf_18 : decode cX6_bendOf 18 = .ok (.iconst 2, 1) := by decide +kernel
theorem dX6_bendOf_19 : decode cX6_bendOf 19 = .ok (.if_icmp .ne 9, 3) := by decide +kernel
theorem dX6_bendOf_22 : decode cX6_bendOf 22 = .ok (.ldc2_w 340, 3) := by decide +kernel
theorem dX6_bendOf_25 : decode cX6_bendOf 25 = .ok (.goto 4, 3) := by decide +kernel
theorem dX6_bendOf_28 : decode cX6_bendOf 28 = .ok (.dconst 0, 1) := by decide +kernel
theorem dX6_bendOf_29 : decode cX6_bendOf 29 = .ok (.dstore_n 3, 1) := by decide +kernel
theorem dX6_bendOf_30 : decode cX6_bendOf 30 = .ok (.iload_n 0, 1) := by decide +kernel
theorem dX6_bendOf_31 : decode cX6_bendOf 31 = .ok (.i2d, 1) := by decide +kernel
theorem dX6_bendOf_32 : decode cX6_bendOf 32 = .ok (.ldc2_w 144, 3) := by decide +kernel
theorem dX6_bendOf_35 : decode cX6_bendOf 35 = .ok (.ddiv, 1) := by decide +kernel
theorem dX6_bendOf_36 : decode cX6_bendOf 36 = .ok (.dconst 1, 1) := by decide +kernel
theorem dX6_bendOf_37 : decode cX6_bendOf 37 = .ok (.iload_n 2, 1) := by decide +kernel
theorem dX6_bendOf_38 : decode cX6_bendOf 38 = .ok (.iconst 1, 1) := by decide +kernel
theorem dX6_bendOf_39 : decode cX6_bendOf 39 = .ok (.isub, 1) := by decide +kernel
theorem dX6_bendOf_40 : decode cX6_bendOf 40 = .ok (.i2d, 1) := by decide +kernel
theorem dX6_bendOf_41 : decode cX6_bendOf 41 = .ok (.dload_n 3, 1) := by decide +kernel
theorem dX6_bendOf_42 : decode cX6_bendOf 42 = .ok (.dmul, 1) := by decide +kernel
theorem dX6_bendOf_43 : decode cX6_bendOf 43 = .ok (.dadd, 1) := by decide +kernel
theorem dX6_bendOf_44 : decode cX6_bendOf 44 = .ok (.dmul, 1) := by decide +kernel
theorem dX6_bendOf_45 : decode cX6_bendOf 45 = .ok (.dreturn, 1) := by decide +kernel
set_option maxRecDepth 20000 in
theorem ggX6_lineUp_X6_lineUpIf : GoodIn wsX6_lineUp wsX6_lineUpIf := goodIn_r _ [6, 7, 8, 9, 10, 11, 12, 13, 14, 15, 16, 17, 18, 19, 20, 21, 22, 23, 5, 24, 25, 26, 27, 28, 29, 30, 31, 32, 33, 34, 35, 36, 37, 38, 39, 40, 41, 42, 43, 44, 45, 46, 47, 48, 49, 50, 51, 52, 53, 54, 55, 56, 57] rfl (by decide +kernel)
set_option maxRecDepth 20000 in
theorem gX6_lineUp_X6_lineUpIf : GoodIn wsX6_lineUp (wsV RX6 245 RX6 yX6_lineUpIf wsX6_lineUpIf) := goodIn_app (goodIn_of _ (by decide +kernel)) ggX6_lineUp_X6_lineUpIf
theorem dX6_lineUp_0 : decode cX6_lineUp 0 = .ok (.aload_n 0, 1) := by decide +kernel
theorem dX6_lineUp_1 : decode cX6_lineUp 1 = .ok (.iload_n 1, 1) := by decide +kernel
theorem dX6_lineUp_2 : decode cX6_lineUp 2 = .ok (.aload_n 0, 1) := by decide +kernel
theorem dX6_lineUp_3 : decode cX6_lineUp 3 = .ok (.getfield 22, 3) := by decide +kernel
theorem dX6_lineUp_6 : decode cX6_lineUp 6 = .ok (.iconst (-1), 1) := by decide +kernel
theorem dX6_lineUp_7 : decode cX6_lineUp 7 = .ok (.iconst (-1), 1) := by decide +kernel
theorem dX6_lineUp_8 : decode cX6_lineUp 8 = .ok (.invokevirtual 245, 3) := by decide +kernel
theorem dX6_lineUp_11 : decode cX6_lineUp 11 = .ok (.return_, 1) := by decide +kernel
set_option maxRecDepth 20000 in
theorem ggX6_lineUpIf_X5_clear : GoodIn wsX6_lineUpIf wsX5_clear := goodIn_r _ [12, 13, 14, 15, 46, 47, 48, 49, 50, 51, 52] rfl (by decide +kernel)
set_option maxRecDepth 20000 in
theorem gX6_lineUpIf_X5_clear : GoodIn wsX6_lineUpIf (wsV RX6 342 RX5 yX5_clear wsX5_clear) := goodIn_app (goodIn_of _ (by decide +kernel)) ggX6_lineUpIf_X5_clear
set_option maxRecDepth 20000 in
theorem ggX6_lineUpIf_X6_bendOf : GoodIn wsX6_lineUpIf wsX6_bendOf := goodIn_r _ [19, 20, 21, 22] rfl (by decide +kernel)
set_option maxRecDepth 20000 in
theorem gX6_lineUpIf_X6_bendOf : GoodIn wsX6_lineUpIf (va_wsS RX6 130 yX6_bendOf wsX6_bendOf) := goodIn_app (goodIn_of _ (by decide +kernel)) ggX6_lineUpIf_X6_bendOf
set_option maxRecDepth 20000 in
theorem ggX6_lineUpIf_X5_join : GoodIn wsX6_lineUpIf wsX5_join := goodIn_r _ [26, 14, 15, 13, 27, 28, 29, 30, 46, 47, 48, 49, 50, 51, 52] rfl (by decide +kernel)
set_option maxRecDepth 20000 in
theorem gX6_lineUpIf_X5_join : GoodIn wsX6_lineUpIf (wsV RX6 344 RX5 yX5_join wsX5_join) := goodIn_app (goodIn_of _ (by decide +kernel)) ggX6_lineUpIf_X5_join
theorem dX6_lineUpIf_0 : decode cX6_lineUpIf 0 = .ok (.aload_n 0, 1) := by decide +kernel
theorem dX6_lineUpIf_1 : decode cX6_lineUpIf 1 = .ok (.getfield 32, 3) := by decide +kernel
theorem dX6_lineUpIf_4 : decode cX6_lineUpIf 4 = .ok (.aload_n 0, 1) := by decide +kernel
theorem dX6_lineUpIf_5 : decode cX6_lineUpIf 5 = .ok (.getfield 108, 3) := by decide +kernel
theorem dX6_lineUpIf_8 : decode cX6_lineUpIf 8 = .ok (.iload_n 2, 1) := by decide +kernel
theorem dX6_lineUpIf_9 : decode cX6_lineUpIf 9 = .ok (.invokevirtual 342, 3) := by decide +kernel
theorem dX6_lineUpIf_12 : decode cX6_lineUpIf 12 = .ok (.iconst 0, 1) := by decide +kernel
theorem dX6_lineUpIf_13 : decode cX6_lineUpIf 13 = .ok (.istore 5, 2) := by decide +kernel
theorem dX6_lineUpIf_15 : decode cX6_lineUpIf 15 = .ok (.iload 5, 2) := by decide +kernel
theorem dX6_lineUpIf_17 : decode cX6_lineUpIf 17 = .ok (.aload_n 0, 1) := by decide +kernel
theorem dX6_lineUpIf_18 : decode cX6_lineUpIf 18 = .ok (.getfield 94, 3) := by decide +kernel
theorem dX6_lineUpIf_21 : decode cX6_lineUpIf 21 = .ok (.if_icmp .ge 65, 3) := by decide +kernel
theorem dX6_lineUpIf_24 : decode cX6_lineUpIf 24 = .ok (.iload 5, 2) := by decide +kernel
theorem dX6_lineUpIf_26 : decode cX6_lineUpIf 26 = .ok (.iload_n 3, 1) := by decide +kernel
theorem dX6_lineUpIf_27 : decode cX6_lineUpIf 27 = .ok (.if_icmp .ne 8, 3) := by decide +kernel
theorem dX6_lineUpIf_30 : decode cX6_lineUpIf 30 = .ok (.iload 4, 2) := by decide +kernel
theorem dX6_lineUpIf_32 : decode cX6_lineUpIf 32 = .ok (.goto 10, 3) := by decide +kernel
theorem dX6_lineUpIf_35 : decode cX6_lineUpIf 35 = .ok (.aload_n 0, 1) := by decide +kernel
theorem dX6_lineUpIf_36 : decode cX6_lineUpIf 36 = .ok (.getfield 9, 3) := by decide +kernel
theorem dX6_lineUpIf_39 : decode cX6_lineUpIf 39 = .ok (.iload 5, 2) := by decide +kernel
theorem dX6_lineUpIf_41 : decode cX6_lineUpIf 41 = .ok (.iaload, 1) := by decide +kernel
theorem dX6_lineUpIf_42 : decode cX6_lineUpIf 42 = .ok (.istore 6, 2) := by decide +kernel
theorem dX6_lineUpIf_44 : decode cX6_lineUpIf 44 = .ok (.aload_n 0, 1) := by decide +kernel
theorem dX6_lineUpIf_45 : decode cX6_lineUpIf 45 = .ok (.getfield 32, 3) := by decide +kernel
theorem dX6_lineUpIf_48 : decode cX6_lineUpIf 48 = .ok (.iload 5, 2) := by decide +kernel
theorem dX6_lineUpIf_50 : decode cX6_lineUpIf 50 = .ok (.iload 6, 2) := by decide +kernel
theorem dX6_lineUpIf_52 : decode cX6_lineUpIf 52 = .ok (.aload_n 0, 1) := by decide +kernel
theorem dX6_lineUpIf_53 : decode cX6_lineUpIf 53 = .ok (.getfield 13, 3) := by decide +kernel
theorem dX6_lineUpIf_56 : decode cX6_lineUpIf 56 = .ok (.iload 5, 2) := by decide +kernel
theorem dX6_lineUpIf_58 : decode cX6_lineUpIf 58 = .ok (.iaload, 1) := by decide +kernel
theorem dX6_lineUpIf_59 : decode cX6_lineUpIf 59 = .ok (.aload_n 0, 1) := by decide +kernel
theorem dX6_lineUpIf_60 : decode cX6_lineUpIf 60 = .ok (.getfield 16, 3) := by decide +kernel
theorem dX6_lineUpIf_63 : decode cX6_lineUpIf 63 = .ok (.iload 5, 2) := by decide +kernel
theorem dX6_lineUpIf_65 : decode cX6_lineUpIf 65 = .ok (.iaload, 1) := by decide +kernel
theorem dX6_lineUpIf_66 : decode cX6_lineUpIf 66 = .ok (.aload_n 0, 1) := by decide +kernel
theorem dX6_lineUpIf_67 : decode cX6_lineUpIf 67 = .ok (.getfield 19, 3) := by decide +kernel
theorem dX6_lineUpIf_70 : decode cX6_lineUpIf 70 = .ok (.iload 5, 2) := by decide +kernel
theorem dX6_lineUpIf_72 : decode cX6_lineUpIf 72 = .ok (.iaload, 1) := by decide +kernel
theorem dX6_lineUpIf_73 : decode cX6_lineUpIf 73 = .ok (.iload_n 1, 1) := by decide +kernel
theorem dX6_lineUpIf_74 : decode cX6_lineUpIf 74 = .ok (.invokestatic 130, 3) := by decide +kernel
theorem dX6_lineUpIf_77 : decode cX6_lineUpIf 77 = .ok (.invokevirtual 344, 3) := by decide +kernel
theorem dX6_lineUpIf_80 : decode cX6_lineUpIf 80 = .ok (.iinc 5 1, 3) := by decide +kernel
theorem dX6_lineUpIf_83 : decode cX6_lineUpIf 83 = .ok (.goto (-68), 3) := by decide +kernel
theorem dX6_lineUpIf_86 : decode cX6_lineUpIf 86 = .ok (.return_, 1) := by decide +kernel
set_option maxRecDepth 20000 in
theorem ggX6_layTable_X6_lineUp : GoodIn wsX6_layTable wsX6_lineUp := goodIn_r _ [7, 8, 9, 10, 11, 6, 12, 2, 13, 14, 15, 16, 17, 18, 19, 20, 21, 22, 23, 24, 25, 26, 27, 28, 29, 30, 31, 32, 33, 34, 35, 36, 37, 38, 39, 40, 66, 67, 68, 69, 70, 71, 72, 73, 74, 75, 76, 77, 78, 79, 80, 81, 82, 83, 84, 85, 86, 87] rfl (by decide +kernel)
set_option maxRecDepth 20000 in
theorem gX6_layTable_X6_lineUp : GoodIn wsX6_layTable (wsV RX6 120 RX6 yX6_lineUp wsX6_lineUp) := goodIn_app (goodIn_of _ (by decide +kernel)) ggX6_layTable_X6_lineUp
set_option maxRecDepth 20000 in
theorem ggX6_layTable_X4_lay : GoodIn wsX6_layTable wsX4_lay := goodIn_r _ [45, 46, 47, 48, 49, 50, 51, 52, 44, 53, 54, 55, 56, 57, 58, 59, 60, 61, 62, 63, 64, 65, 81, 82, 83, 84, 85, 86, 87, 88, 89, 90, 91] rfl (by decide +kernel)
set_option maxRecDepth 20000 in
theorem gX6_layTable_X4_lay : GoodIn wsX6_layTable (wsV RX6 348 RX4 yX4_lay wsX4_lay) := goodIn_app (goodIn_of _ (by decide +kernel)) ggX6_layTable_X4_lay
theorem dX6_layTable_0 : decode cX6_layTable 0 = .ok (.aload_n 0, 1) := by decide +kernel
theorem dX6_layTable_1 : decode cX6_layTable 1 = .ok (.iload_n 1, 1) := by decide +kernel
theorem dX6_layTable_2 : decode cX6_layTable 2 = .ok (.invokevirtual 120, 3) := by decide +kernel
theorem dX6_layTable_5 : decode cX6_layTable 5 = .ok (.aload_n 0, 1) := by decide +kernel
theorem dX6_layTable_6 : decode cX6_layTable 6 = .ok (.getfield 53, 3) := by decide +kernel
theorem dX6_layTable_9 : decode cX6_layTable 9 = .ok (.aload_n 0, 1) := by decide +kernel
theorem dX6_layTable_10 : decode cX6_layTable 10 = .ok (.getfield 32, 3) := by decide +kernel
theorem dX6_layTable_13 : decode cX6_layTable 13 = .ok (.invokevirtual 348, 3) := by decide +kernel
theorem dX6_layTable_16 : decode cX6_layTable 16 = .ok (.return_, 1) := by decide +kernel
set_option maxRecDepth 20000 in
theorem ggX6_sendFan_X1_send : GoodIn wsX6_sendFan wsX1_send := goodIn_r _ [10, 11, 12, 13, 14, 15, 16, 17, 18, 19, 20, 21, 22, 23, 24, 25, 26, 27, 28, 29, 30, 31, 32, 33, 34, 35, 36, 9, 37, 38, 39, 55, 56, 57, 58, 59, 60, 61, 62, 63, 64, 65, 66, 67, 68, 69] rfl (by decide +kernel)
set_option maxRecDepth 20000 in
theorem gX6_sendFan_X1_send : GoodIn wsX6_sendFan (wsV RX6 352 RX1 yX1_send wsX1_send) := goodIn_app (goodIn_of _ (by decide +kernel)) ggX6_sendFan_X1_send
theorem dX6_sendFan_0 : decode cX6_sendFan 0 = .ok (.aload_n 0, 1) := by decide +kernel
theorem dX6_sendFan_1 : decode cX6_sendFan 1 = .ok (.getfield 46, 3) := by decide +kernel
theorem dX6_sendFan_4 : decode cX6_sendFan 4 = .ok (.aload_n 0, 1) := by decide +kernel
theorem dX6_sendFan_5 : decode cX6_sendFan 5 = .ok (.getfield 32, 3) := by decide +kernel
theorem dX6_sendFan_8 : decode cX6_sendFan 8 = .ok (.aload_n 0, 1) := by decide +kernel
theorem dX6_sendFan_9 : decode cX6_sendFan 9 = .ok (.getfield 26, 3) := by decide +kernel
theorem dX6_sendFan_12 : decode cX6_sendFan 12 = .ok (.i2d, 1) := by decide +kernel
theorem dX6_sendFan_13 : decode cX6_sendFan 13 = .ok (.ldc2_w 142, 3) := by decide +kernel
theorem dX6_sendFan_16 : decode cX6_sendFan 16 = .ok (.ddiv, 1) := by decide +kernel
theorem dX6_sendFan_17 : decode cX6_sendFan 17 = .ok (.invokevirtual 352, 3) := by decide +kernel
theorem dX6_sendFan_20 : decode cX6_sendFan 20 = .ok (.aload_n 0, 1) := by decide +kernel
theorem dX6_sendFan_21 : decode cX6_sendFan 21 = .ok (.getfield 46, 3) := by decide +kernel
theorem dX6_sendFan_24 : decode cX6_sendFan 24 = .ok (.getfield 356, 3) := by decide +kernel
theorem dX6_sendFan_27 : decode cX6_sendFan 27 = .ok (.ireturn, 1) := by decide +kernel
theorem dX6_plain_0 : decode cX6_plain 0 = .ok (.dload_n 0, 1) := by decide +kernel
theorem dX6_plain_1 : decode cX6_plain 1 = .ok (.dconst 0, 1) := by decide +kernel
theorem dX6_plain_2 : decode cX6_plain 2 = .ok (.dcmp .l, 1) := by decide +kernel
theorem dX6_plain_3 : decode cX6_plain 3 = .ok (.ifCond .ne 7, 3) := by decide +kernel
theorem dX6_plain_6 : decode cX6_plain 6 = .ok (.dconst 0, 1) := by decide +kernel
theorem dX6_plain_7 : decode cX6_plain 7 = .ok (.goto 4, 3) := by decide +kernel
theorem dX6_plain_10 : decode cX6_plain 10 = .ok (.dload_n 0, 1) := by decide +kernel
theorem dX6_plain_11 : decode cX6_plain 11 = .ok (.dreturn, 1) := by decide +kernel
theorem dX6_unsigned_0 : decode cX6_unsigned 0 = .ok (.dload_n 0, 1) := by decide +kernel
theorem dX6_unsigned_1 : decode cX6_unsigned 1 = .ok (.dconst 0, 1) := by decide +kernel
theorem dX6_unsigned_2 : decode cX6_unsigned 2 = .ok (.dcmp .g, 1) := by decide +kernel
theorem dX6_unsigned_3 : decode cX6_unsigned 3 = .ok (.ifCond .ge 8, 3) := by decide +kernel
theorem dX6_unsigned_6 : decode cX6_unsigned 6 = .ok (.dload_n 0, 1) := by decide +kernel
theorem dX6_unsigned_7 : decode cX6_unsigned 7 = .ok (.dneg, 1) := by decide +kernel
theorem dX6_unsigned_8 : decode cX6_unsigned 8 = .ok (.goto 4, 3) := by decide +kernel
theorem dX6_unsigned_11 : decode cX6_unsigned 11 = .ok (.dload_n 0, 1) := by decide +kernel
theorem dX6_unsigned_12 : decode cX6_unsigned 12 = .ok (.dreturn, 1) := by decide +kernel
set_option maxRecDepth 20000 in
theorem ggX6_isTiny_X6_unsigned : GoodIn wsX6_isTiny wsX6_unsigned := goodIn_r _ [5] rfl (by decide +kernel)
set_option maxRecDepth 20000 in
theorem gX6_isTiny_X6_unsigned : GoodIn wsX6_isTiny (va_wsS RX6 359 yX6_unsigned wsX6_unsigned) := goodIn_app (goodIn_of _ (by decide +kernel)) ggX6_isTiny_X6_unsigned
theorem dX6_isTiny_0 : decode cX6_isTiny 0 = .ok (.dload_n 0, 1) := by decide +kernel
theorem dX6_isTiny_1 : decode cX6_isTiny 1 = .ok (.invokestatic 359, 3) := by decide +kernel
theorem dX6_isTiny_4 : decode cX6_isTiny 4 = .ok (.ldc2_w 362, 3) := by decide +kernel
theorem dX6_isTiny_7 : decode cX6_isTiny 7 = .ok (.dcmp .g, 1) := by decide +kernel
theorem dX6_isTiny_8 : decode cX6_isTiny 8 = .ok (.ifCond .ge 7, 3) := by decide +kernel
theorem dX6_isTiny_11 : decode cX6_isTiny 11 = .ok (.iconst 1, 1) := by decide +kernel
theorem dX6_isTiny_12 : decode cX6_isTiny 12 = .ok (.goto 4, 3) := by decide +kernel
theorem dX6_isTiny_15 : decode cX6_isTiny 15 = .ok (.iconst 0, 1) := by decide +kernel
theorem dX6_isTiny_16 : decode cX6_isTiny 16 = .ok (.ireturn, 1) := by decide +kernel
theorem dX7_init_0 : decode cX7_init 0 = .ok (.aload_n 0, 1) := by decide +kernel
theorem dX7_init_1 : decode cX7_init 1 = .ok (.invokespecial 1, 3) := by decide +kernel
theorem dX7_init_4 : decode cX7_init 4 = .ok (.return_, 1) := by decide +kernel
theorem dX8_init_0 : decode cX8_init 0 = .ok (.aload_n 0, 1) := by decide +kernel
theorem dX8_init_1 : decode cX8_init 1 = .ok (.invokespecial 1, 3) := by decide +kernel
theorem dX8_init_4 : decode cX8_init 4 = .ok (.aload_n 0, 1) := by decide +kernel
theorem dX8_init_5 : decode cX8_init 5 = .ok (.bipush 8, 2) := by decide +kernel
theorem dX8_init_7 : decode cX8_init 7 = .ok (.newarray .int, 2) := by decide +kernel
theorem dX8_init_9 : decode cX8_init 9 = .ok (.putfield 9, 3) := by decide +kernel
theorem dX8_init_12 : decode cX8_init 12 = .ok (.aload_n 0, 1) := by decide +kernel
theorem dX8_init_13 : decode cX8_init 13 = .ok (.bipush 8, 2) := by decide +kernel
theorem dX8_init_15 : decode cX8_init 15 = .ok (.newarray .int, 2) := by decide +kernel
theorem dX8_init_17 : decode cX8_init 17 = .ok (.putfield 13, 3) := by decide +kernel
theorem dX8_init_20 : decode cX8_init 20 = .ok (.aload_n 0, 1) := by decide +kernel
theorem dX8_init_21 : decode cX8_init 21 = .ok (.bipush 8, 2) := by decide +kernel
theorem dX8_init_23 : decode cX8_init 23 = .ok (.newarray .int, 2) := by decide +kernel
theorem dX8_init_25 : decode cX8_init 25 = .ok (.putfield 16, 3) := by decide +kernel
theorem dX8_init_28 : decode cX8_init 28 = .ok (.aload_n 0, 1) := by decide +kernel
theorem dX8_init_29 : decode cX8_init 29 = .ok (.bipush 8, 2) := by decide +kernel
theorem dX8_init_31 : decode cX8_init 31 = .ok (.newarray .int, 2) := by decide +kernel
theorem dX8_init_33 : decode cX8_init 33 = .ok (.putfield 19, 3) := by decide +kernel
theorem dX8_init_36 : decode cX8_init 36 = .ok (.aload_n 0, 1) := by decide +kernel
theorem dX8_init_37 : decode cX8_init 37 = .ok (.bipush 99, 2) := by decide +kernel
theorem dX8_init_39 : decode cX8_init 39 = .ok (.putfield 22, 3) := by decide +kernel
theorem dX8_init_42 : decode cX8_init 42 = .ok (.aload_n 0, 1) := by decide +kernel
theorem dX8_init_43 : decode cX8_init 43 = .ok (.iconst 4, 1) := by decide +kernel
theorem dX8_init_44 : decode cX8_init 44 = .ok (.putfield 26, 3) := by decide +kernel
theorem dX8_init_47 : decode cX8_init 47 = .ok (.return_, 1) := by decide +kernel
theorem dX8_thrown_0 : decode cX8_thrown 0 = .ok (.aload_n 0, 1) := by decide +kernel
theorem dX8_thrown_1 : decode cX8_thrown 1 = .ok (.getfield 29, 3) := by decide +kernel
theorem dX8_thrown_4 : decode cX8_thrown 4 = .ok (.ireturn, 1) := by decide +kernel
theorem dX8_refuse_0 : decode cX8_refuse 0 = .ok (.aload_n 0, 1) := by decide +kernel
theorem dX8_refuse_1 : decode cX8_refuse 1 = .ok (.iload_n 1, 1) := by decide +kernel
theorem dX8_refuse_2 : decode cX8_refuse 2 = .ok (.putfield 29, 3) := by decide +kernel
theorem dX8_refuse_5 : decode cX8_refuse 5 = .ok (.iconst 0, 1) := by decide +kernel
theorem dX8_refuse_6 : decode cX8_refuse 6 = .ok (.ireturn, 1) := by decide +kernel
theorem dX8_is_0 : decode cX8_is 0 = .ok (.iload_n 0, 1) := by decide +kernel
theorem dX8_is_1 : decode cX8_is 1 = .ok (.iload_n 1, 1) := by decide +kernel
theorem dX8_is_2 : decode cX8_is 2 = .ok (.if_icmp .lt 12, 3) := by decide +kernel
theorem dX8_is_5 : decode cX8_is 5 = .ok (.iload_n 0, 1) := by decide +kernel
theorem dX8_is_6 : decode cX8_is 6 = .ok (.iload_n 2, 1) := by decide +kernel
theorem dX8_is_7 : decode cX8_is 7 = .ok (.if_icmp .gt 7, 3) := by decide +kernel
theorem dX8_is_10 : decode cX8_is 10 = .ok (.iconst 1, 1) := by decide +kernel
theorem dX8_is_11 : decode cX8_is 11 = .ok (.goto 4, 3) := by decide +kernel
theorem dX8_is_14 : decode cX8_is 14 = .ok (.iconst 0, 1) := by decide +kernel
theorem dX8_is_15 : decode cX8_is 15 = .ok (.ireturn, 1) := by decide +kernel
theorem dX8_plain_0 : decode cX8_plain 0 = .ok (.dload_n 0, 1) := by decide +kernel
theorem dX8_plain_1 : decode cX8_plain 1 = .ok (.dconst 0, 1) := by decide +kernel
theorem dX8_plain_2 : decode cX8_plain 2 = .ok (.dcmp .l, 1) := by decide +kernel
theorem dX8_plain_3 : decode cX8_plain 3 = .ok (.ifCond .ne 7, 3) := by decide +kernel
theorem dX8_plain_6 : decode cX8_plain 6 = .ok (.dconst 0, 1) := by decide +kernel
theorem dX8_plain_7 : decode cX8_plain 7 = .ok (.goto 4, 3) := by decide +kernel
theorem dX8_plain_10 : decode cX8_plain 10 = .ok (.dload_n 0, 1) := by decide +kernel
theorem dX8_plain_11 : decode cX8_plain 11 = .ok (.dreturn, 1) := by decide +kernel
theorem dX8_at_0 : decode cX8_at 0 = .ok (.iconst 0, 1) := by decide +kernel
theorem dX8_at_1 : decode cX8_at 1 = .ok (.istore_n 2, 1) := by decide +kernel
theorem dX8_at_2 : decode cX8_at 2 = .ok (.iload_n 2, 1) := by decide +kernel
theorem dX8_at_3 : decode cX8_at 3 = .ok (.aload_n 0, 1) := by decide +kernel
theorem dX8_at_4 : decode cX8_at 4 = .ok (.getfield 32, 3) := by decide +kernel
theorem dX8_at_7 : decode cX8_at 7 = .ok (.if_icmp .ge 21, 3) := by decide +kernel
theorem dX8_at_10 : decode cX8_at 10 = .ok (.aload_n 0, 1) := by decide +kernel
theorem dX8_at_11 : decode cX8_at 11 = .ok (.getfield 9, 3) := by decide +kernel
theorem dX8_at_14 : decode cX8_at 14 = .ok (.iload_n 2, 1) := by decide +kernel
theorem dX8_at_15 : decode cX8_at 15 = .ok (.iaload, 1) := by decide +kernel
theorem dX8_at_16 : decode cX8_at 16 = .ok (.iload_n 1, 1) := by decide +kernel
theorem dX8_at_17 : decode cX8_at 17 = .ok (.if_icmp .ne 5, 3) := by decide +kernel
theorem dX8_at_20 : decode cX8_at 20 = .ok (.iload_n 2, 1) := by decide +kernel
theorem dX8_at_21 : decode cX8_at 21 = .ok (.ireturn, 1) := by decide +kernel
theorem dX8_at_22 : decode cX8_at 22 = .ok (.iinc 2 1, 3) := by decide +kernel
theorem dX8_at_25 : decode cX8_at 25 = .ok (.goto (-23), 3) := by decide +kernel
theorem dX8_at_28 : decode cX8_at 28 = .ok (.iconst (-1), 1) := by decide +kernel
theorem dX8_at_29 : decode cX8_at 29 = .ok (.ireturn, 1) := by decide +kernel
theorem dX8_next_0 : decode cX8_next 0 = .ok (.iconst (-1), 1) := by decide +kernel
theorem dX8_next_1 : decode cX8_next 1 = .ok (.istore_n 2, 1) := by decide +kernel
theorem dX8_next_2 : decode cX8_next 2 = .ok (.iconst 0, 1) := by decide +kernel
theorem dX8_next_3 : decode cX8_next 3 = .ok (.istore_n 3, 1) := by decide +kernel
theorem dX8_next_4 : decode cX8_next 4 = .ok (.iload_n 3, 1) := by decide +kernel
theorem dX8_next_5 : decode cX8_next 5 = .ok (.aload_n 0, 1) := by decide +kernel
theorem dX8_next_6 : decode cX8_next 6 = .ok (.getfield 32, 3) := by decide +kernel
theorem dX8_next_9 : decode cX8_next 9 = .ok (.if_icmp .ge 54, 3) := by decide +kernel
theorem dX8_next_12 : decode cX8_next 12 = .ok (.aload_n 0, 1) := by decide +kernel
theorem dX8_next_13 : decode cX8_next 13 = .ok (.getfield 9, 3) := by decide +kernel
theorem dX8_next_16 : decode cX8_next 16 = .ok (.iload_n 3, 1) := by decide +kernel
theorem dX8_next_17 : decode cX8_next 17 = .ok (.iaload, 1) := by decide +kernel
theorem dX8_next_18 : decode cX8_next 18 = .ok (.iload_n 1, 1) := by decide +kernel
theorem dX8_next_19 : decode cX8_next 19 = .ok (.if_icmp .le 38, 3) := by decide +kernel
theorem dX8_next_22 : decode cX8_next 22 = .ok (.aload_n 0, 1) := by decide +kernel
theorem dX8_next_23 : decode cX8_next 23 = .ok (.getfield 9, 3) := by decide +kernel
theorem dX8_next_26 : decode cX8_next 26 = .ok (.iload_n 3, 1) := by decide +kernel
theorem dX8_next_27 : decode cX8_next 27 = .ok (.iaload, 1) := by decide +kernel
theorem dX8_next_28 : decode cX8_next 28 = .ok (.aload_n 0, 1) := by decide +kernel
theorem dX8_next_29 : decode cX8_next 29 = .ok (.getfield 22, 3) := by decide +kernel
theorem dX8_next_32 : decode cX8_next 32 = .ok (.if_icmp .ge 25, 3) := by decide +kernel
theorem dX8_next_35 : decode cX8_next 35 = .ok (.iload_n 2, 1) := by decide +kernel
theorem dX8_next_36 : decode cX8_next 36 = .ok (.iconst (-1), 1) := by decide +kernel
theorem dX8_next_37 : decode cX8_next 37 = .ok (.if_icmp .eq 18, 3) := by decide +kernel
theorem dX8_next_40 : decode cX8_next 40 = .ok (.aload_n 0, 1) := by decide +kernel
theorem dX8_next_41 : decode cX8_next 41 = .ok (.getfield 9, 3) := by decide +kernel
theorem dX8_next_44 : decode cX8_next 44 = .ok (.iload_n 3, 1) := by decide +kernel
theorem dX8_next_45 : decode cX8_next 45 = .ok (.iaload, 1) := by decide +kernel
theorem dX8_next_46 : decode cX8_next 46 = .ok (.aload_n 0, 1) := by decide +kernel
theorem dX8_next_47 : decode cX8_next 47 = .ok (.getfield 9, 3) := by decide +kernel
theorem dX8_next_50 : decode cX8_next 50 = .ok (.iload_n 2, 1) := by decide +kernel
theorem dX8_next_51 : decode cX8_next 51 = .ok (.iaload, 1) := by decide +kernel
theorem dX8_next_52 : decode cX8_next 52 = .ok (.if_icmp .ge 5, 3) := by decide +kernel
theorem dX8_next_55 : decode cX8_next 55 = .ok (.iload_n 3, 1) := by decide +kernel
theorem dX8_next_56 : decode cX8_next 56 = .ok (.istore_n 2, 1) := by decide +kernel
theorem dX8_next_57 : decode cX8_next 57 = .ok (.iinc 3 1, 3) := by decide +kernel
theorem dX8_next_60 : decode cX8_next 60 = .ok (.goto (-56), 3) := by decide +kernel
theorem dX8_next_63 : decode cX8_next 63 = .ok (.iload_n 2, 1) := by decide +kernel
theorem dX8_next_64 : decode cX8_next 64 = .ok (.ireturn, 1) := by decide +kernel
theorem dX8_strengthNow_0 : decode cX8_strengthNow 0 = .ok (.aload_n 0, 1) := by decide +kernel
theorem dX8_strengthNow_1 : decode cX8_strengthNow 1 = .ok (.getfield 16, 3) := by decide +kernel
theorem dX8_strengthNow_4 : decode cX8_strengthNow 4 = .ok (.iload_n 1, 1) := by decide +kernel
theorem dX8_strengthNow_5 : decode cX8_strengthNow 5 = .ok (.iaload, 1) := by decide +kernel
theorem dX8_strengthNow_6 : decode cX8_strengthNow 6 = .ok (.ifCond .ne 5, 3) := by decide +kernel
theorem dX8_strengthNow_9 : decode cX8_strengthNow 9 = .ok (.dconst 0, 1) := by decide +kernel
theorem dX8_strengthNow_10 : decode cX8_strengthNow 10 = .ok (.dreturn, 1) := by decide +kernel
theorem dX8_strengthNow_11 : decode cX8_strengthNow 11 = .ok (.aload_n 0, 1) := by decide +kernel
theorem dX8_strengthNow_12 : decode cX8_strengthNow 12 = .ok (.getfield 19, 3) := by decide +kernel
theorem dX8_strengthNow_15 : decode cX8_strengthNow 15 = .ok (.iload_n 1, 1) := by decide +kernel
theorem dX8_strengthNow_16 : decode cX8_strengthNow 16 = .ok (.iaload, 1) := by decide +kernel
theorem dX8_strengthNow_17 : decode cX8_strengthNow 17 = .ok (.ifCond .ne 7, 3) := by decide +kernel
theorem dX8_strengthNow_20 : decode cX8_strengthNow 20 = .ok (.dconst 0, 1) := by decide +kernel
theorem dX8_strengthNow_21 : decode cX8_strengthNow 21 = .ok (.goto 22, 3) := by decide +kernel
theorem dX8_strengthNow_24 : decode cX8_strengthNow 24 = .ok (.aload_n 0, 1) := by decide +kernel
theorem dX8_strengthNow_25 : decode cX8_strengthNow 25 = .ok (.getfield 19, 3) := by decide +kernel
theorem dX8_strengthNow_28 : decode cX8_strengthNow 28 = .ok (.iload_n 1, 1) := by decide +kernel
theorem dX8_strengthNow_29 : decode cX8_strengthNow 29 = .ok (.iaload, 1) := by decide +kernel
theorem dX8_strengthNow_30 : decode cX8_strengthNow 30 = .ok (.iconst 1, 1) := by decide +kernel
theorem dX8_strengthNow_31 : decode cX8_strengthNow 31 = .ok (.if_icmp .ne 9, 3) := by decide +kernel
theorem dX8_strengthNow_34 : decode cX8_strengthNow 34 = .ok (.ldc2_w 35, 3) := by decide +kernel
theorem dX8_strengthNow_37 : decode cX8_strengthNow 37 = .ok (.goto 6, 3) := by decide +kernel
theorem dX8_strengthNow_40 : decode cX8_strengthNow 40 = .ok (.ldc2_w 37, 3) := by decide +kernel
theorem dX8_strengthNow_43 : decode cX8_strengthNow 43 = .ok (.dstore_n 3, 1) := by decide +kernel
theorem dX8_strengthNow_44 : decode cX8_strengthNow 44 = .ok (.dconst 1, 1) := by decide +kernel
theorem dX8_strengthNow_45 : decode cX8_strengthNow 45 = .ok (.iload_n 2, 1) := by decide +kernel
theorem dX8_strengthNow_46 : decode cX8_strengthNow 46 = .ok (.iconst 1, 1) := by decide +kernel
theorem dX8_strengthNow_47 : decode cX8_strengthNow 47 = .ok (.isub, 1) := by decide +kernel
theorem dX8_strengthNow_48 : decode cX8_strengthNow 48 = .ok (.i2d, 1) := by decide +kernel
theorem dX8_strengthNow_49 : decode cX8_strengthNow 49 = .ok (.dload_n 3, 1) := by decide +kernel
theorem dX8_strengthNow_50 : decode cX8_strengthNow 50 = .ok (.dmul, 1) := by decide +kernel
theorem dX8_strengthNow_51 : decode cX8_strengthNow 51 = .ok (.dadd, 1) := by decide +kernel
theorem dX8_strengthNow_52 : decode cX8_strengthNow 52 = .ok (.dstore 5, 2) := by decide +kernel
theorem dX8_strengthNow_54 : decode cX8_strengthNow 54 = .ok (.aload_n 0, 1) := by decide +kernel
theorem dX8_strengthNow_55 : decode cX8_strengthNow 55 = .ok (.getfield 16, 3) := by decide +kernel
theorem dX8_strengthNow_58 : decode cX8_strengthNow 58 = .ok (.iload_n 1, 1) := by decide +kernel
theorem dX8_strengthNow_59 : decode cX8_strengthNow 59 = .ok (.iaload, 1) := by decide +kernel
theorem dX8_strengthNow_60 : decode cX8_strengthNow 60 = .ok (.i2d, 1) := by decide +kernel
theorem dX8_strengthNow_61 : decode cX8_strengthNow 61 = .ok (.ldc2_w 39, 3) := by decide +kernel
theorem dX8_strengthNow_64 : decode cX8_strengthNow 64 = .ok (.ddiv, 1) := by decide +kernel
theorem dX8_strengthNow_65 : decode cX8_strengthNow 65 = .ok (.dload 5, 2) := by decide +kernel
theorem dX8_strengthNow_67 : decode cX8_strengthNow 67 = .ok (.dmul, 1) := by decide +kernel
theorem dX8_strengthNow_68 : decode cX8_strengthNow 68 = .ok (.dreturn, 1) := by decide +kernel
set_option maxRecDepth 20000 in
theorem ggX8_put_X8_at : GoodIn wsX8_put wsX8_at := goodIn_r _ [10, 1, 2, 16, 17, 18, 19, 20, 21, 22, 23, 24, 25, 26, 27, 28, 29] rfl (by decide +kernel)
set_option maxRecDepth 20000 in
theorem gX8_put_X8_at : GoodIn wsX8_put (wsV RX8 41 RX8 yX8_at wsX8_at) := goodIn_app (goodIn_of _ (by decide +kernel)) ggX8_put_X8_at
set_option maxRecDepth 20000 in
theorem ggX8_put_X8_refuse : GoodIn wsX8_put wsX8_refuse := goodIn_r _ [14, 15, 16, 17, 18, 19, 20, 21, 22, 23, 24, 25, 26, 27, 28, 29] rfl (by decide +kernel)
set_option maxRecDepth 20000 in
theorem gX8_put_X8_refuse : GoodIn wsX8_put (wsV RX8 45 RX8 yX8_refuse wsX8_refuse) := goodIn_app (goodIn_of _ (by decide +kernel)) ggX8_put_X8_refuse
theorem dX8_put_0 : decode cX8_put 0 = .ok (.aload_n 0, 1) := by decide +kernel
theorem dX8_put_1 : decode cX8_put 1 = .ok (.getfield 32, 3) := by decide +kernel
theorem dX8_put_4 : decode cX8_put 4 = .ok (.bipush 8, 2) := by decide +kernel
theorem dX8_put_6 : decode cX8_put 6 = .ok (.if_icmp .eq 12, 3) := by decide +kernel
theorem dX8_put_9 : decode cX8_put 9 = .ok (.aload_n 0, 1) := by decide +kernel
theorem dX8_put_10 : decode cX8_put 10 = .ok (.iload_n 1, 1) := by decide +kernel
theorem dX8_put_11 : decode cX8_put 11 = .ok (.invokevirtual 41, 3) := by decide +kernel
theorem dX8_put_14 : decode cX8_put 14 = .ok (.iconst (-1), 1) := by decide +kernel
theorem dX8_put_15 : decode cX8_put 15 = .ok (.if_icmp .eq 9, 3) := by decide +kernel
theorem dX8_put_18 : decode cX8_put 18 = .ok (.aload_n 0, 1) := by decide +kernel
theorem dX8_put_19 : decode cX8_put 19 = .ok (.iconst 3, 1) := by decide +kernel
theorem dX8_put_20 : decode cX8_put 20 = .ok (.invokevirtual 45, 3) := by decide +kernel
theorem dX8_put_23 : decode cX8_put 23 = .ok (.ireturn, 1) := by decide +kernel
theorem dX8_put_24 : decode cX8_put 24 = .ok (.aload_n 0, 1) := by decide +kernel
theorem dX8_put_25 : decode cX8_put 25 = .ok (.getfield 9, 3) := by decide +kernel
theorem dX8_put_28 : decode cX8_put 28 = .ok (.aload_n 0, 1) := by decide +kernel
theorem dX8_put_29 : decode cX8_put 29 = .ok (.getfield 32, 3) := by decide +kernel
theorem dX8_put_32 : decode cX8_put 32 = .ok (.iload_n 1, 1) := by decide +kernel
theorem dX8_put_33 : decode cX8_put 33 = .ok (.iastore, 1) := by decide +kernel
theorem dX8_put_34 : decode cX8_put 34 = .ok (.aload_n 0, 1) := by decide +kernel
theorem dX8_put_35 : decode cX8_put 35 = .ok (.getfield 13, 3) := by decide +kernel
theorem dX8_put_38 : decode cX8_put 38 = .ok (.aload_n 0, 1) := by decide +kernel
theorem dX8_put_39 : decode cX8_put 39 = .ok (.getfield 32, 3) := by decide +kernel
theorem dX8_put_42 : decode cX8_put 42 = .ok (.iload_n 2, 1) := by decide +kernel
theorem dX8_put_43 : decode cX8_put 43 = .ok (.iastore, 1) := by decide +kernel
theorem dX8_put_44 : decode cX8_put 44 = .ok (.aload_n 0, 1) := by decide +kernel
theorem dX8_put_45 : decode cX8_put 45 = .ok (.getfield 16, 3) := by decide +kernel
theorem dX8_put_48 : decode cX8_put 48 = .ok (.aload_n 0, 1) := by decide +kernel
theorem dX8_put_49 : decode cX8_put 49 = .ok (.getfield 32, 3) := by decide +kernel
theorem dX8_put_52 : decode cX8_put 52 = .ok (.iload_n 3, 1) := by decide +kernel
theorem dX8_put_53 : decode cX8_put 53 = .ok (.iastore, 1) := by decide +kernel
theorem dX8_put_54 : decode cX8_put 54 = .ok (.aload_n 0, 1) := by decide +kernel
theorem dX8_put_55 : decode cX8_put 55 = .ok (.getfield 19, 3) := by decide +kernel
theorem dX8_put_58 : decode cX8_put 58 = .ok (.aload_n 0, 1) := by decide +kernel
theorem dX8_put_59 : decode cX8_put 59 = .ok (.getfield 32, 3) := by decide +kernel
theorem dX8_put_62 : decode cX8_put 62 = .ok (.iload 4, 2) := by decide +kernel
theorem dX8_put_64 : decode cX8_put 64 = .ok (.iastore, 1) := by decide +kernel
theorem dX8_put_65 : decode cX8_put 65 = .ok (.aload_n 0, 1) := by decide +kernel
theorem dX8_put_66 : decode cX8_put 66 = .ok (.dup, 1) := by decide +kernel
theorem dX8_put_67 : decode cX8_put 67 = .ok (.getfield 32, 3) := by decide +kernel
theorem dX8_put_70 : decode cX8_put 70 = .ok (.iconst 1, 1) := by decide +kernel
theorem dX8_put_71 : decode cX8_put 71 = .ok (.iadd, 1) := by decide +kernel
theorem dX8_put_72 : decode cX8_put 72 = .ok (.putfield 32, 3) := by decide +kernel
theorem dX8_put_75 : decode cX8_put 75 = .ok (.aload_n 0, 1) := by decide +kernel
theorem dX8_put_76 : decode cX8_put 76 = .ok (.getfield 32, 3) := by decide +kernel
theorem dX8_put_79 : decode cX8_put 79 = .ok (.iconst 1, 1) := by decide +kernel
theorem dX8_put_80 : decode cX8_put 80 = .ok (.isub, 1) := by decide +kernel
theorem dX8_put_81 : decode cX8_put 81 = .ok (.ireturn, 1) := by decide +kernel
set_option maxRecDepth 20000 in
theorem ggX8_lens_X8_is : GoodIn wsX8_lens wsX8_is := goodIn_r _ [5] rfl (by decide +kernel)
set_option maxRecDepth 20000 in
theorem gX8_lens_X8_is : GoodIn wsX8_lens (va_wsS RX8 48 yX8_is wsX8_is) := goodIn_app (goodIn_of _ (by decide +kernel)) ggX8_lens_X8_is
set_option maxRecDepth 20000 in
theorem ggX8_lens_X8_refuse : GoodIn wsX8_lens wsX8_refuse := goodIn_r _ [9, 1, 23, 24, 25, 26, 27, 28, 29, 30, 31, 32, 33, 34, 35, 36] rfl (by decide +kernel)
set_option maxRecDepth 20000 in
theorem gX8_lens_X8_refuse : GoodIn wsX8_lens (wsV RX8 45 RX8 yX8_refuse wsX8_refuse) := goodIn_app (goodIn_of _ (by decide +kernel)) ggX8_lens_X8_refuse
set_option maxRecDepth 20000 in
theorem ggX8_lens_X8_put : GoodIn wsX8_lens wsX8_put := goodIn_r _ [13, 14, 15, 16, 17, 18, 19, 20, 21, 4, 22, 6, 7, 8, 9, 1, 23, 24, 25, 26, 27, 28, 29, 30, 31, 32, 33, 34, 35, 36] rfl (by decide +kernel)
set_option maxRecDepth 20000 in
theorem gX8_lens_X8_put : GoodIn wsX8_lens (wsV RX8 52 RX8 yX8_put wsX8_put) := goodIn_app (goodIn_of _ (by decide +kernel)) ggX8_lens_X8_put
theorem dX8_lens_0 : decode cX8_lens 0 = .ok (.aload_n 0, 1) := by decide +kernel
theorem dX8_lens_1 : decode cX8_lens 1 = .ok (.iconst 0, 1) := by decide +kernel
theorem dX8_lens_2 : decode cX8_lens 2 = .ok (.putfield 29, 3) := by decide +kernel
theorem dX8_lens_5 : decode cX8_lens 5 = .ok (.iload_n 1, 1) := by decide +kernel
theorem dX8_lens_6 : decode cX8_lens 6 = .ok (.iconst 0, 1) := by decide +kernel
theorem dX8_lens_7 : decode cX8_lens 7 = .ok (.bipush 99, 2) := by decide +kernel
theorem dX8_lens_9 : decode cX8_lens 9 = .ok (.invokestatic 48, 3) := by decide +kernel
theorem dX8_lens_12 : decode cX8_lens 12 = .ok (.ifCond .ne 9, 3) := by decide +kernel
theorem dX8_lens_15 : decode cX8_lens 15 = .ok (.aload_n 0, 1) := by decide +kernel
theorem dX8_lens_16 : decode cX8_lens 16 = .ok (.iconst 1, 1) := by decide +kernel
theorem dX8_lens_17 : decode cX8_lens 17 = .ok (.invokevirtual 45, 3) := by decide +kernel
theorem dX8_lens_20 : decode cX8_lens 20 = .ok (.ireturn, 1) := by decide +kernel
theorem dX8_lens_21 : decode cX8_lens 21 = .ok (.iload_n 2, 1) := by decide +kernel
theorem dX8_lens_22 : decode cX8_lens 22 = .ok (.iconst 1, 1) := by decide +kernel
theorem dX8_lens_23 : decode cX8_lens 23 = .ok (.bipush 20, 2) := by decide +kernel
theorem dX8_lens_25 : decode cX8_lens 25 = .ok (.invokestatic 48, 3) := by decide +kernel
theorem dX8_lens_28 : decode cX8_lens 28 = .ok (.ifCond .eq 28, 3) := by decide +kernel
theorem dX8_lens_31 : decode cX8_lens 31 = .ok (.iload_n 3, 1) := by decide +kernel
theorem dX8_lens_32 : decode cX8_lens 32 = .ok (.ifCond .eq 24, 3) := by decide +kernel
theorem dX8_lens_35 : decode cX8_lens 35 = .ok (.iload_n 3, 1) := by decide +kernel
theorem dX8_lens_36 : decode cX8_lens 36 = .ok (.bipush (-50), 2) := by decide +kernel
theorem dX8_lens_38 : decode cX8_lens 38 = .ok (.bipush 50, 2) := by decide +kernel
theorem dX8_lens_40 : decode cX8_lens 40 = .ok (.invokestatic 48, 3) := by decide +kernel
theorem dX8_lens_43 : decode cX8_lens 43 = .ok (.ifCond .eq 13, 3) := by decide +kernel
theorem dX8_lens_46 : decode cX8_lens 46 = .ok (.iload 4, 2) := by decide +kernel
