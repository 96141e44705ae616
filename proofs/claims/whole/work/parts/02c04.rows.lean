theorem dX8_lens_48 : decode cX8_lens 48 = .ok (.iconst 0, 1) := by decide +kernel
theorem dX8_lens_49 : decode cX8_lens 49 = .ok (.iconst 2, 1) := by decide +kernel
theorem dX8_lens_50 : decode cX8_lens 50 = .ok (.invokestatic 48, 3) := by decide +kernel
theorem dX8_lens_53 : decode cX8_lens 53 = .ok (.ifCond .ne 9, 3) := by decide +kernel
theorem dX8_lens_56 : decode cX8_lens 56 = .ok (.aload_n 0, 1) := by decide +kernel
theorem dX8_lens_57 : decode cX8_lens 57 = .ok (.iconst 2, 1) := by decide +kernel
theorem dX8_lens_58 : decode cX8_lens 58 = .ok (.invokevirtual 45, 3) := by decide +kernel
theorem dX8_lens_61 : decode cX8_lens 61 = .ok (.ireturn, 1) := by decide +kernel
theorem dX8_lens_62 : decode cX8_lens 62 = .ok (.aload_n 0, 1) := by decide +kernel
theorem dX8_lens_63 : decode cX8_lens 63 = .ok (.iload_n 1, 1) := by decide +kernel
theorem dX8_lens_64 : decode cX8_lens 64 = .ok (.iload_n 2, 1) := by decide +kernel
theorem dX8_lens_65 : decode cX8_lens 65 = .ok (.iload_n 3, 1) := by decide +kernel
theorem dX8_lens_66 : decode cX8_lens 66 = .ok (.iload 4, 2) := by decide +kernel
theorem dX8_lens_68 : decode cX8_lens 68 = .ok (.invokevirtual 52, 3) := by decide +kernel
theorem dX8_lens_71 : decode cX8_lens 71 = .ok (.ireturn, 1) := by decide +kernel
set_option maxRecDepth 20000 in
theorem ggX8_stop_X8_is : GoodIn wsX8_stop wsX8_is := goodIn_r _ [5] rfl (by decide +kernel)
set_option maxRecDepth 20000 in
theorem gX8_stop_X8_is : GoodIn wsX8_stop (va_wsS RX8 48 yX8_is wsX8_is) := goodIn_app (goodIn_of _ (by decide +kernel)) ggX8_stop_X8_is
set_option maxRecDepth 20000 in
theorem ggX8_stop_X8_refuse : GoodIn wsX8_stop wsX8_refuse := goodIn_r _ [9, 1, 23, 24, 25, 26, 27, 28, 29, 30, 31, 32, 33, 34, 35, 36] rfl (by decide +kernel)
set_option maxRecDepth 20000 in
theorem gX8_stop_X8_refuse : GoodIn wsX8_stop (wsV RX8 45 RX8 yX8_refuse wsX8_refuse) := goodIn_app (goodIn_of _ (by decide +kernel)) ggX8_stop_X8_refuse
set_option maxRecDepth 20000 in
theorem ggX8_stop_X8_put : GoodIn wsX8_stop wsX8_put := goodIn_r _ [13, 14, 15, 16, 17, 18, 19, 20, 21, 4, 22, 6, 7, 8, 9, 1, 23, 24, 25, 26, 27, 28, 29, 30, 31, 32, 33, 34, 35, 36] rfl (by decide +kernel)
set_option maxRecDepth 20000 in
theorem gX8_stop_X8_put : GoodIn wsX8_stop (wsV RX8 52 RX8 yX8_put wsX8_put) := goodIn_app (goodIn_of _ (by decide +kernel)) ggX8_stop_X8_put
theorem dX8_stop_0 : decode cX8_stop 0 = .ok (.aload_n 0, 1) := by decide +kernel
theorem dX8_stop_1 : decode cX8_stop 1 = .ok (.iconst 0, 1) := by decide +kernel
theorem dX8_stop_2 : decode cX8_stop 2 = .ok (.putfield 29, 3) := by decide +kernel
theorem dX8_stop_5 : decode cX8_stop 5 = .ok (.iload_n 1, 1) := by decide +kernel
theorem dX8_stop_6 : decode cX8_stop 6 = .ok (.iconst 0, 1) := by decide +kernel
theorem dX8_stop_7 : decode cX8_stop 7 = .ok (.bipush 99, 2) := by decide +kernel
theorem dX8_stop_9 : decode cX8_stop 9 = .ok (.invokestatic 48, 3) := by decide +kernel
theorem dX8_stop_12 : decode cX8_stop 12 = .ok (.ifCond .ne 9, 3) := by decide +kernel
theorem dX8_stop_15 : decode cX8_stop 15 = .ok (.aload_n 0, 1) := by decide +kernel
theorem dX8_stop_16 : decode cX8_stop 16 = .ok (.iconst 1, 1) := by decide +kernel
theorem dX8_stop_17 : decode cX8_stop 17 = .ok (.invokevirtual 45, 3) := by decide +kernel
theorem dX8_stop_20 : decode cX8_stop 20 = .ok (.ireturn, 1) := by decide +kernel
theorem dX8_stop_21 : decode cX8_stop 21 = .ok (.iload_n 2, 1) := by decide +kernel
theorem dX8_stop_22 : decode cX8_stop 22 = .ok (.iconst 1, 1) := by decide +kernel
theorem dX8_stop_23 : decode cX8_stop 23 = .ok (.bipush 20, 2) := by decide +kernel
theorem dX8_stop_25 : decode cX8_stop 25 = .ok (.invokestatic 48, 3) := by decide +kernel
theorem dX8_stop_28 : decode cX8_stop 28 = .ok (.ifCond .eq 14, 3) := by decide +kernel
theorem dX8_stop_31 : decode cX8_stop 31 = .ok (.aload_n 0, 1) := by decide +kernel
theorem dX8_stop_32 : decode cX8_stop 32 = .ok (.iload_n 1, 1) := by decide +kernel
theorem dX8_stop_33 : decode cX8_stop 33 = .ok (.iload_n 2, 1) := by decide +kernel
theorem dX8_stop_34 : decode cX8_stop 34 = .ok (.iconst 0, 1) := by decide +kernel
theorem dX8_stop_35 : decode cX8_stop 35 = .ok (.iconst (-1), 1) := by decide +kernel
theorem dX8_stop_36 : decode cX8_stop 36 = .ok (.invokevirtual 52, 3) := by decide +kernel
theorem dX8_stop_39 : decode cX8_stop 39 = .ok (.goto 8, 3) := by decide +kernel
theorem dX8_stop_42 : decode cX8_stop 42 = .ok (.aload_n 0, 1) := by decide +kernel
theorem dX8_stop_43 : decode cX8_stop 43 = .ok (.iconst 2, 1) := by decide +kernel
theorem dX8_stop_44 : decode cX8_stop 44 = .ok (.invokevirtual 45, 3) := by decide +kernel
theorem dX8_stop_47 : decode cX8_stop 47 = .ok (.ireturn, 1) := by decide +kernel
set_option maxRecDepth 20000 in
theorem ggX8_isPiece_X8_is : GoodIn wsX8_isPiece wsX8_is := goodIn_r _ [5] rfl (by decide +kernel)
set_option maxRecDepth 20000 in
theorem gX8_isPiece_X8_is : GoodIn wsX8_isPiece (va_wsS RX8 48 yX8_is wsX8_is) := goodIn_app (goodIn_of _ (by decide +kernel)) ggX8_isPiece_X8_is
theorem dX8_isPiece_0 : decode cX8_isPiece 0 = .ok (.iload_n 1, 1) := by decide +kernel
theorem dX8_isPiece_1 : decode cX8_isPiece 1 = .ok (.iconst 0, 1) := by decide +kernel
theorem dX8_isPiece_2 : decode cX8_isPiece 2 = .ok (.aload_n 0, 1) := by decide +kernel
theorem dX8_isPiece_3 : decode cX8_isPiece 3 = .ok (.getfield 32, 3) := by decide +kernel
theorem dX8_isPiece_6 : decode cX8_isPiece 6 = .ok (.iconst 1, 1) := by decide +kernel
theorem dX8_isPiece_7 : decode cX8_isPiece 7 = .ok (.isub, 1) := by decide +kernel
theorem dX8_isPiece_8 : decode cX8_isPiece 8 = .ok (.invokestatic 48, 3) := by decide +kernel
theorem dX8_isPiece_11 : decode cX8_isPiece 11 = .ok (.ireturn, 1) := by decide +kernel
set_option maxRecDepth 20000 in
theorem ggX8_take_X8_isPiece : GoodIn wsX8_take wsX8_isPiece := goodIn_r _ [11, 3, 12, 13, 10, 14, 19, 20, 21, 22, 23, 24, 25, 26, 27, 28, 29, 30, 31, 32] rfl (by decide +kernel)
set_option maxRecDepth 20000 in
theorem gX8_take_X8_isPiece : GoodIn wsX8_take (wsV RX8 56 RX8 yX8_isPiece wsX8_isPiece) := goodIn_app (goodIn_of _ (by decide +kernel)) ggX8_take_X8_isPiece
set_option maxRecDepth 20000 in
theorem ggX8_take_X8_refuse : GoodIn wsX8_take wsX8_refuse := goodIn_r _ [18, 1, 19, 20, 21, 22, 23, 24, 25, 26, 27, 28, 29, 30, 31, 32] rfl (by decide +kernel)
set_option maxRecDepth 20000 in
theorem gX8_take_X8_refuse : GoodIn wsX8_take (wsV RX8 45 RX8 yX8_refuse wsX8_refuse) := goodIn_app (goodIn_of _ (by decide +kernel)) ggX8_take_X8_refuse
theorem dX8_take_0 : decode cX8_take 0 = .ok (.aload_n 0, 1) := by decide +kernel
theorem dX8_take_1 : decode cX8_take 1 = .ok (.iconst 0, 1) := by decide +kernel
theorem dX8_take_2 : decode cX8_take 2 = .ok (.putfield 29, 3) := by decide +kernel
theorem dX8_take_5 : decode cX8_take 5 = .ok (.aload_n 0, 1) := by decide +kernel
theorem dX8_take_6 : decode cX8_take 6 = .ok (.iload_n 1, 1) := by decide +kernel
theorem dX8_take_7 : decode cX8_take 7 = .ok (.invokevirtual 56, 3) := by decide +kernel
theorem dX8_take_10 : decode cX8_take 10 = .ok (.ifCond .ne 9, 3) := by decide +kernel
theorem dX8_take_13 : decode cX8_take 13 = .ok (.aload_n 0, 1) := by decide +kernel
theorem dX8_take_14 : decode cX8_take 14 = .ok (.iconst 1, 1) := by decide +kernel
theorem dX8_take_15 : decode cX8_take 15 = .ok (.invokevirtual 45, 3) := by decide +kernel
theorem dX8_take_18 : decode cX8_take 18 = .ok (.ireturn, 1) := by decide +kernel
theorem dX8_take_19 : decode cX8_take 19 = .ok (.aload_n 0, 1) := by decide +kernel
theorem dX8_take_20 : decode cX8_take 20 = .ok (.getfield 9, 3) := by decide +kernel
theorem dX8_take_23 : decode cX8_take 23 = .ok (.iload_n 1, 1) := by decide +kernel
theorem dX8_take_24 : decode cX8_take 24 = .ok (.iaload, 1) := by decide +kernel
theorem dX8_take_25 : decode cX8_take 25 = .ok (.istore_n 2, 1) := by decide +kernel
theorem dX8_take_26 : decode cX8_take 26 = .ok (.aload_n 0, 1) := by decide +kernel
theorem dX8_take_27 : decode cX8_take 27 = .ok (.dup, 1) := by decide +kernel
theorem dX8_take_28 : decode cX8_take 28 = .ok (.getfield 32, 3) := by decide +kernel
theorem dX8_take_31 : decode cX8_take 31 = .ok (.iconst 1, 1) := by decide +kernel
theorem dX8_take_32 : decode cX8_take 32 = .ok (.isub, 1) := by decide +kernel
theorem dX8_take_33 : decode cX8_take 33 = .ok (.putfield 32, 3) := by decide +kernel
theorem dX8_take_36 : decode cX8_take 36 = .ok (.iload_n 1, 1) := by decide +kernel
theorem dX8_take_37 : decode cX8_take 37 = .ok (.istore_n 3, 1) := by decide +kernel
theorem dX8_take_38 : decode cX8_take 38 = .ok (.iload_n 3, 1) := by decide +kernel
theorem dX8_take_39 : decode cX8_take 39 = .ok (.aload_n 0, 1) := by decide +kernel
theorem dX8_take_40 : decode cX8_take 40 = .ok (.getfield 32, 3) := by decide +kernel
theorem dX8_take_43 : decode cX8_take 43 = .ok (.if_icmp .ge 65, 3) := by decide +kernel
theorem dX8_take_46 : decode cX8_take 46 = .ok (.aload_n 0, 1) := by decide +kernel
theorem dX8_take_47 : decode cX8_take 47 = .ok (.getfield 9, 3) := by decide +kernel
theorem dX8_take_50 : decode cX8_take 50 = .ok (.iload_n 3, 1) := by decide +kernel
theorem dX8_take_51 : decode cX8_take 51 = .ok (.aload_n 0, 1) := by decide +kernel
theorem dX8_take_52 : decode cX8_take 52 = .ok (.getfield 9, 3) := by decide +kernel
theorem dX8_take_55 : decode cX8_take 55 = .ok (.iload_n 3, 1) := by decide +kernel
theorem dX8_take_56 : decode cX8_take 56 = .ok (.iconst 1, 1) := by decide +kernel
theorem dX8_take_57 : decode cX8_take 57 = .ok (.iadd, 1) := by decide +kernel
theorem dX8_take_58 : decode cX8_take 58 = .ok (.iaload, 1) := by decide +kernel
theorem dX8_take_59 : decode cX8_take 59 = .ok (.iastore, 1) := by decide +kernel
theorem dX8_take_60 : decode cX8_take 60 = .ok (.aload_n 0, 1) := by decide +kernel
theorem dX8_take_61 : decode cX8_take 61 = .ok (.getfield 13, 3) := by decide +kernel
theorem dX8_take_64 : decode cX8_take 64 = .ok (.iload_n 3, 1) := by decide +kernel
theorem dX8_take_65 : decode cX8_take 65 = .ok (.aload_n 0, 1) := by decide +kernel
theorem dX8_take_66 : decode cX8_take 66 = .ok (.getfield 13, 3) := by decide +kernel
theorem dX8_take_69 : decode cX8_take 69 = .ok (.iload_n 3, 1) := by decide +kernel
theorem dX8_take_70 : decode cX8_take 70 = .ok (.iconst 1, 1) := by decide +kernel
theorem dX8_take_71 : decode cX8_take 71 = .ok (.iadd, 1) := by decide +kernel
theorem dX8_take_72 : decode cX8_take 72 = .ok (.iaload, 1) := by decide +kernel
theorem dX8_take_73 : decode cX8_take 73 = .ok (.iastore, 1) := by decide +kernel
theorem dX8_take_74 : decode cX8_take 74 = .ok (.aload_n 0, 1) := by decide +kernel
theorem dX8_take_75 : decode cX8_take 75 = .ok (.getfield 16, 3) := by decide +kernel
theorem dX8_take_78 : decode cX8_take 78 = .ok (.iload_n 3, 1) := by decide +kernel
theorem dX8_take_79 : decode cX8_take 79 = .ok (.aload_n 0, 1) := by decide +kernel
theorem dX8_take_80 : decode cX8_take 80 = .ok (.getfield 16, 3) := by decide +kernel
theorem dX8_take_83 : decode cX8_take 83 = .ok (.iload_n 3, 1) := by decide +kernel
theorem dX8_take_84 : decode cX8_take 84 = .ok (.iconst 1, 1) := by decide +kernel
theorem dX8_take_85 : decode cX8_take 85 = .ok (.iadd, 1) := by decide +kernel
theorem dX8_take_86 : decode cX8_take 86 = .ok (.iaload, 1) := by decide +kernel
theorem dX8_take_87 : decode cX8_take 87 = .ok (.iastore, 1) := by decide +kernel
theorem dX8_take_88 : decode cX8_take 88 = .ok (.aload_n 0, 1) := by decide +kernel
theorem dX8_take_89 : decode cX8_take 89 = .ok (.getfield 19, 3) := by decide +kernel
theorem dX8_take_92 : decode cX8_take 92 = .ok (.iload_n 3, 1) := by decide +kernel
theorem dX8_take_93 : decode cX8_take 93 = .ok (.aload_n 0, 1) := by decide +kernel
theorem dX8_take_94 : decode cX8_take 94 = .ok (.getfield 19, 3) := by decide +kernel
theorem dX8_take_97 : decode cX8_take 97 = .ok (.iload_n 3, 1) := by decide +kernel
theorem dX8_take_98 : decode cX8_take 98 = .ok (.iconst 1, 1) := by decide +kernel
theorem dX8_take_99 : decode cX8_take 99 = .ok (.iadd, 1) := by decide +kernel
theorem dX8_take_100 : decode cX8_take 100 = .ok (.iaload, 1) := by decide +kernel
theorem dX8_take_101 : decode cX8_take 101 = .ok (.iastore, 1) := by decide +kernel
theorem dX8_take_102 : decode cX8_take 102 = .ok (.iinc 3 1, 3) := by decide +kernel
theorem dX8_take_105 : decode cX8_take 105 = .ok (.goto (-67), 3) := by decide +kernel
theorem dX8_take_108 : decode cX8_take 108 = .ok (.iload_n 2, 1) := by decide +kernel
theorem dX8_take_109 : decode cX8_take 109 = .ok (.ireturn, 1) := by decide +kernel
set_option maxRecDepth 20000 in
theorem ggX8_move_X8_isPiece : GoodIn wsX8_move wsX8_isPiece := goodIn_r _ [7, 8, 9, 10, 6, 11, 20, 21, 22, 23, 24, 25, 26, 27, 28, 29, 30, 31, 32, 33] rfl (by decide +kernel)
set_option maxRecDepth 20000 in
theorem gX8_move_X8_isPiece : GoodIn wsX8_move (wsV RX8 56 RX8 yX8_isPiece wsX8_isPiece) := goodIn_app (goodIn_of _ (by decide +kernel)) ggX8_move_X8_isPiece
set_option maxRecDepth 20000 in
theorem ggX8_move_X8_is : GoodIn wsX8_move wsX8_is := goodIn_r _ [11] rfl (by decide +kernel)
set_option maxRecDepth 20000 in
theorem gX8_move_X8_is : GoodIn wsX8_move (va_wsS RX8 48 yX8_is wsX8_is) := goodIn_app (goodIn_of _ (by decide +kernel)) ggX8_move_X8_is
set_option maxRecDepth 20000 in
theorem ggX8_move_X8_refuse : GoodIn wsX8_move wsX8_refuse := goodIn_r _ [15, 1, 20, 21, 22, 23, 24, 25, 26, 27, 28, 29, 30, 31, 32, 33] rfl (by decide +kernel)
set_option maxRecDepth 20000 in
theorem gX8_move_X8_refuse : GoodIn wsX8_move (wsV RX8 45 RX8 yX8_refuse wsX8_refuse) := goodIn_app (goodIn_of _ (by decide +kernel)) ggX8_move_X8_refuse
set_option maxRecDepth 20000 in
theorem ggX8_move_X8_at : GoodIn wsX8_move wsX8_at := goodIn_r _ [19, 8, 2, 20, 21, 22, 23, 24, 25, 26, 27, 28, 29, 30, 31, 32, 33] rfl (by decide +kernel)
set_option maxRecDepth 20000 in
theorem gX8_move_X8_at : GoodIn wsX8_move (wsV RX8 41 RX8 yX8_at wsX8_at) := goodIn_app (goodIn_of _ (by decide +kernel)) ggX8_move_X8_at
theorem dX8_move_0 : decode cX8_move 0 = .ok (.aload_n 0, 1) := by decide +kernel
theorem dX8_move_1 : decode cX8_move 1 = .ok (.iconst 0, 1) := by decide +kernel
theorem dX8_move_2 : decode cX8_move 2 = .ok (.putfield 29, 3) := by decide +kernel
theorem dX8_move_5 : decode cX8_move 5 = .ok (.aload_n 0, 1) := by decide +kernel
theorem dX8_move_6 : decode cX8_move 6 = .ok (.iload_n 1, 1) := by decide +kernel
theorem dX8_move_7 : decode cX8_move 7 = .ok (.invokevirtual 56, 3) := by decide +kernel
theorem dX8_move_10 : decode cX8_move 10 = .ok (.ifCond .eq 13, 3) := by decide +kernel
theorem dX8_move_13 : decode cX8_move 13 = .ok (.iload_n 2, 1) := by decide +kernel
theorem dX8_move_14 : decode cX8_move 14 = .ok (.iconst 0, 1) := by decide +kernel
theorem dX8_move_15 : decode cX8_move 15 = .ok (.bipush 99, 2) := by decide +kernel
theorem dX8_move_17 : decode cX8_move 17 = .ok (.invokestatic 48, 3) := by decide +kernel
theorem dX8_move_20 : decode cX8_move 20 = .ok (.ifCond .ne 9, 3) := by decide +kernel
theorem dX8_move_23 : decode cX8_move 23 = .ok (.aload_n 0, 1) := by decide +kernel
theorem dX8_move_24 : decode cX8_move 24 = .ok (.iconst 1, 1) := by decide +kernel
theorem dX8_move_25 : decode cX8_move 25 = .ok (.invokevirtual 45, 3) := by decide +kernel
theorem dX8_move_28 : decode cX8_move 28 = .ok (.ireturn, 1) := by decide +kernel
theorem dX8_move_29 : decode cX8_move 29 = .ok (.aload_n 0, 1) := by decide +kernel
theorem dX8_move_30 : decode cX8_move 30 = .ok (.iload_n 2, 1) := by decide +kernel
theorem dX8_move_31 : decode cX8_move 31 = .ok (.invokevirtual 41, 3) := by decide +kernel
theorem dX8_move_34 : decode cX8_move 34 = .ok (.istore_n 3, 1) := by decide +kernel
theorem dX8_move_35 : decode cX8_move 35 = .ok (.iload_n 3, 1) := by decide +kernel
theorem dX8_move_36 : decode cX8_move 36 = .ok (.iconst (-1), 1) := by decide +kernel
theorem dX8_move_37 : decode cX8_move 37 = .ok (.if_icmp .eq 14, 3) := by decide +kernel
theorem dX8_move_40 : decode cX8_move 40 = .ok (.iload_n 3, 1) := by decide +kernel
theorem dX8_move_41 : decode cX8_move 41 = .ok (.iload_n 1, 1) := by decide +kernel
theorem dX8_move_42 : decode cX8_move 42 = .ok (.if_icmp .eq 9, 3) := by decide +kernel
theorem dX8_move_45 : decode cX8_move 45 = .ok (.aload_n 0, 1) := by decide +kernel
theorem dX8_move_46 : decode cX8_move 46 = .ok (.iconst 2, 1) := by decide +kernel
theorem dX8_move_47 : decode cX8_move 47 = .ok (.invokevirtual 45, 3) := by decide +kernel
theorem dX8_move_50 : decode cX8_move 50 = .ok (.ireturn, 1) := by decide +kernel
theorem dX8_move_51 : decode cX8_move 51 = .ok (.aload_n 0, 1) := by decide +kernel
theorem dX8_move_52 : decode cX8_move 52 = .ok (.getfield 9, 3) := by decide +kernel
theorem dX8_move_55 : decode cX8_move 55 = .ok (.iload_n 1, 1) := by decide +kernel
theorem dX8_move_56 : decode cX8_move 56 = .ok (.iaload, 1) := by decide +kernel
theorem dX8_move_57 : decode cX8_move 57 = .ok (.istore 4, 2) := by decide +kernel
theorem dX8_move_59 : decode cX8_move 59 = .ok (.aload_n 0, 1) := by decide +kernel
theorem dX8_move_60 : decode cX8_move 60 = .ok (.getfield 9, 3) := by decide +kernel
theorem dX8_move_63 : decode cX8_move 63 = .ok (.iload_n 1, 1) := by decide +kernel
theorem dX8_move_64 : decode cX8_move 64 = .ok (.iload_n 2, 1) := by decide +kernel
theorem dX8_move_65 : decode cX8_move 65 = .ok (.iastore, 1) := by decide +kernel
theorem dX8_move_66 : decode cX8_move 66 = .ok (.iload 4, 2) := by decide +kernel
theorem dX8_move_68 : decode cX8_move 68 = .ok (.ireturn, 1) := by decide +kernel
set_option maxRecDepth 20000 in
theorem ggX8_half_X8_isPiece : GoodIn wsX8_half wsX8_isPiece := goodIn_r _ [7, 8, 9, 10, 6, 11, 16, 17, 18, 19, 20, 21, 22, 23, 24, 25, 26, 27, 28, 29] rfl (by decide +kernel)
set_option maxRecDepth 20000 in
theorem gX8_half_X8_isPiece : GoodIn wsX8_half (wsV RX8 56 RX8 yX8_isPiece wsX8_isPiece) := goodIn_app (goodIn_of _ (by decide +kernel)) ggX8_half_X8_isPiece
set_option maxRecDepth 20000 in
theorem ggX8_half_X8_refuse : GoodIn wsX8_half wsX8_refuse := goodIn_r _ [15, 1, 16, 17, 18, 19, 20, 21, 22, 23, 24, 25, 26, 27, 28, 29] rfl (by decide +kernel)
set_option maxRecDepth 20000 in
theorem gX8_half_X8_refuse : GoodIn wsX8_half (wsV RX8 45 RX8 yX8_refuse wsX8_refuse) := goodIn_app (goodIn_of _ (by decide +kernel)) ggX8_half_X8_refuse
set_option maxRecDepth 20000 in
theorem ggX8_half_X8_is : GoodIn wsX8_half wsX8_is := goodIn_r _ [11] rfl (by decide +kernel)
set_option maxRecDepth 20000 in
theorem gX8_half_X8_is : GoodIn wsX8_half (va_wsS RX8 48 yX8_is wsX8_is) := goodIn_app (goodIn_of _ (by decide +kernel)) ggX8_half_X8_is
theorem dX8_half_0 : decode cX8_half 0 = .ok (.aload_n 0, 1) := by decide +kernel
theorem dX8_half_1 : decode cX8_half 1 = .ok (.iconst 0, 1) := by decide +kernel
theorem dX8_half_2 : decode cX8_half 2 = .ok (.putfield 29, 3) := by decide +kernel
theorem dX8_half_5 : decode cX8_half 5 = .ok (.aload_n 0, 1) := by decide +kernel
theorem dX8_half_6 : decode cX8_half 6 = .ok (.iload_n 1, 1) := by decide +kernel
theorem dX8_half_7 : decode cX8_half 7 = .ok (.invokevirtual 56, 3) := by decide +kernel
theorem dX8_half_10 : decode cX8_half 10 = .ok (.ifCond .ne 9, 3) := by decide +kernel
theorem dX8_half_13 : decode cX8_half 13 = .ok (.aload_n 0, 1) := by decide +kernel
theorem dX8_half_14 : decode cX8_half 14 = .ok (.iconst 1, 1) := by decide +kernel
theorem dX8_half_15 : decode cX8_half 15 = .ok (.invokevirtual 45, 3) := by decide +kernel
theorem dX8_half_18 : decode cX8_half 18 = .ok (.ireturn, 1) := by decide +kernel
theorem dX8_half_19 : decode cX8_half 19 = .ok (.iload_n 2, 1) := by decide +kernel
theorem dX8_half_20 : decode cX8_half 20 = .ok (.iconst 1, 1) := by decide +kernel
theorem dX8_half_21 : decode cX8_half 21 = .ok (.bipush 20, 2) := by decide +kernel
theorem dX8_half_23 : decode cX8_half 23 = .ok (.invokestatic 48, 3) := by decide +kernel
theorem dX8_half_26 : decode cX8_half 26 = .ok (.ifCond .ne 9, 3) := by decide +kernel
theorem dX8_half_29 : decode cX8_half 29 = .ok (.aload_n 0, 1) := by decide +kernel
theorem dX8_half_30 : decode cX8_half 30 = .ok (.iconst 2, 1) := by decide +kernel
theorem dX8_half_31 : decode cX8_half 31 = .ok (.invokevirtual 45, 3) := by decide +kernel
theorem dX8_half_34 : decode cX8_half 34 = .ok (.ireturn, 1) := by decide +kernel
theorem dX8_half_35 : decode cX8_half 35 = .ok (.aload_n 0, 1) := by decide +kernel
theorem dX8_half_36 : decode cX8_half 36 = .ok (.getfield 13, 3) := by decide +kernel
theorem dX8_half_39 : decode cX8_half 39 = .ok (.iload_n 1, 1) := by decide +kernel
theorem dX8_half_40 : decode cX8_half 40 = .ok (.iaload, 1) := by decide +kernel
theorem dX8_half_41 : decode cX8_half 41 = .ok (.istore_n 3, 1) := by decide +kernel
theorem dX8_half_42 : decode cX8_half 42 = .ok (.aload_n 0, 1) := by decide +kernel
theorem dX8_half_43 : decode cX8_half 43 = .ok (.getfield 13, 3) := by decide +kernel
theorem dX8_half_46 : decode cX8_half 46 = .ok (.iload_n 1, 1) := by decide +kernel
theorem dX8_half_47 : decode cX8_half 47 = .ok (.iload_n 2, 1) := by decide +kernel
theorem dX8_half_48 : decode cX8_half 48 = .ok (.iastore, 1) := by decide +kernel
theorem dX8_half_49 : decode cX8_half 49 = .ok (.iload_n 3, 1) := by decide +kernel
theorem dX8_half_50 : decode cX8_half 50 = .ok (.ireturn, 1) := by decide +kernel
set_option maxRecDepth 20000 in
theorem ggX8_swap_X8_isPiece : GoodIn wsX8_swap wsX8_isPiece := goodIn_r _ [7, 8, 9, 10, 6, 11, 16, 17, 18, 19, 20, 21, 22, 23, 24, 25, 26, 27, 28, 29] rfl (by decide +kernel)
set_option maxRecDepth 20000 in
theorem gX8_swap_X8_isPiece : GoodIn wsX8_swap (wsV RX8 56 RX8 yX8_isPiece wsX8_isPiece) := goodIn_app (goodIn_of _ (by decide +kernel)) ggX8_swap_X8_isPiece
set_option maxRecDepth 20000 in
theorem ggX8_swap_X8_refuse : GoodIn wsX8_swap wsX8_refuse := goodIn_r _ [15, 1, 16, 17, 18, 19, 20, 21, 22, 23, 24, 25, 26, 27, 28, 29] rfl (by decide +kernel)
set_option maxRecDepth 20000 in
theorem gX8_swap_X8_refuse : GoodIn wsX8_swap (wsV RX8 45 RX8 yX8_refuse wsX8_refuse) := goodIn_app (goodIn_of _ (by decide +kernel)) ggX8_swap_X8_refuse
theorem dX8_swap_0 : decode cX8_swap 0 = .ok (.aload_n 0, 1) := by decide +kernel
theorem dX8_swap_1 : decode cX8_swap 1 = .ok (.iconst 0, 1) := by decide +kernel
theorem dX8_swap_2 : decode cX8_swap 2 = .ok (.putfield 29, 3) := by decide +kernel
theorem dX8_swap_5 : decode cX8_swap 5 = .ok (.aload_n 0, 1) := by decide +kernel
theorem dX8_swap_6 : decode cX8_swap 6 = .ok (.iload_n 1, 1) := by decide +kernel
theorem dX8_swap_7 : decode cX8_swap 7 = .ok (.invokevirtual 56, 3) := by decide +kernel
theorem dX8_swap_10 : decode cX8_swap 10 = .ok (.ifCond .eq 11, 3) := by decide +kernel
theorem dX8_swap_13 : decode cX8_swap 13 = .ok (.aload_n 0, 1) := by decide +kernel
theorem dX8_swap_14 : decode cX8_swap 14 = .ok (.iload_n 2, 1) := by decide +kernel
theorem dX8_swap_15 : decode cX8_swap 15 = .ok (.invokevirtual 56, 3) := by decide +kernel
theorem dX8_swap_18 : decode cX8_swap 18 = .ok (.ifCond .ne 9, 3) := by decide +kernel
theorem dX8_swap_21 : decode cX8_swap 21 = .ok (.aload_n 0, 1) := by decide +kernel
theorem dX8_swap_22 : decode cX8_swap 22 = .ok (.iconst 1, 1) := by decide +kernel
theorem dX8_swap_23 : decode cX8_swap 23 = .ok (.invokevirtual 45, 3) := by decide +kernel
theorem dX8_swap_26 : decode cX8_swap 26 = .ok (.ireturn, 1) := by decide +kernel
theorem dX8_swap_27 : decode cX8_swap 27 = .ok (.aload_n 0, 1) := by decide +kernel
theorem dX8_swap_28 : decode cX8_swap 28 = .ok (.getfield 9, 3) := by decide +kernel
theorem dX8_swap_31 : decode cX8_swap 31 = .ok (.iload_n 1, 1) := by decide +kernel
theorem dX8_swap_32 : decode cX8_swap 32 = .ok (.iaload, 1) := by decide +kernel
theorem dX8_swap_33 : decode cX8_swap 33 = .ok (.istore_n 3, 1) := by decide +kernel
theorem dX8_swap_34 : decode cX8_swap 34 = .ok (.aload_n 0, 1) := by decide +kernel
theorem dX8_swap_35 : decode cX8_swap 35 = .ok (.getfield 9, 3) := by decide +kernel
theorem dX8_swap_38 : decode cX8_swap 38 = .ok (.iload_n 1, 1) := by decide +kernel
theorem dX8_swap_39 : decode cX8_swap 39 = .ok (.aload_n 0, 1) := by decide +kernel
theorem dX8_swap_40 : decode cX8_swap 40 = .ok (.getfield 9, 3) := by decide +kernel
theorem dX8_swap_43 : decode cX8_swap 43 = .ok (.iload_n 2, 1) := by decide +kernel
theorem dX8_swap_44 : decode cX8_swap 44 = .ok (.iaload, 1) := by decide +kernel
theorem dX8_swap_45 : decode cX8_swap 45 = .ok (.iastore, 1) := by decide +kernel
theorem dX8_swap_46 : decode cX8_swap 46 = .ok (.aload_n 0, 1) := by decide +kernel
theorem dX8_swap_47 : decode cX8_swap 47 = .ok (.getfield 9, 3) := by decide +kernel
theorem dX8_swap_50 : decode cX8_swap 50 = .ok (.iload_n 2, 1) := by decide +kernel
theorem dX8_swap_51 : decode cX8_swap 51 = .ok (.iload_n 3, 1) := by decide +kernel
theorem dX8_swap_52 : decode cX8_swap 52 = .ok (.iastore, 1) := by decide +kernel
theorem dX8_swap_53 : decode cX8_swap 53 = .ok (.aload_n 0, 1) := by decide +kernel
theorem dX8_swap_54 : decode cX8_swap 54 = .ok (.getfield 9, 3) := by decide +kernel
theorem dX8_swap_57 : decode cX8_swap 57 = .ok (.iload_n 1, 1) := by decide +kernel
theorem dX8_swap_58 : decode cX8_swap 58 = .ok (.iaload, 1) := by decide +kernel
theorem dX8_swap_59 : decode cX8_swap 59 = .ok (.ireturn, 1) := by decide +kernel
set_option maxRecDepth 20000 in
theorem ggX8_thing_X8_is : GoodIn wsX8_thing wsX8_is := goodIn_r _ [7] rfl (by decide +kernel)
set_option maxRecDepth 20000 in
theorem gX8_thing_X8_is : GoodIn wsX8_thing (va_wsS RX8 48 yX8_is wsX8_is) := goodIn_app (goodIn_of _ (by decide +kernel)) ggX8_thing_X8_is
set_option maxRecDepth 20000 in
theorem ggX8_thing_X8_refuse : GoodIn wsX8_thing wsX8_refuse := goodIn_r _ [11, 1, 12, 13, 14, 15, 16, 17, 18, 19, 20, 21, 22, 23, 24, 25] rfl (by decide +kernel)
set_option maxRecDepth 20000 in
theorem gX8_thing_X8_refuse : GoodIn wsX8_thing (wsV RX8 45 RX8 yX8_refuse wsX8_refuse) := goodIn_app (goodIn_of _ (by decide +kernel)) ggX8_thing_X8_refuse
theorem dX8_thing_0 : decode cX8_thing 0 = .ok (.aload_n 0, 1) := by decide +kernel
theorem dX8_thing_1 : decode cX8_thing 1 = .ok (.iconst 0, 1) := by decide +kernel
theorem dX8_thing_2 : decode cX8_thing 2 = .ok (.putfield 29, 3) := by decide +kernel
theorem dX8_thing_5 : decode cX8_thing 5 = .ok (.iload_n 1, 1) := by decide +kernel
theorem dX8_thing_6 : decode cX8_thing 6 = .ok (.iconst 0, 1) := by decide +kernel
theorem dX8_thing_7 : decode cX8_thing 7 = .ok (.bipush 99, 2) := by decide +kernel
theorem dX8_thing_9 : decode cX8_thing 9 = .ok (.invokestatic 48, 3) := by decide +kernel
theorem dX8_thing_12 : decode cX8_thing 12 = .ok (.ifCond .ne 9, 3) := by decide +kernel
theorem dX8_thing_15 : decode cX8_thing 15 = .ok (.aload_n 0, 1) := by decide +kernel
theorem dX8_thing_16 : decode cX8_thing 16 = .ok (.iconst 1, 1) := by decide +kernel
theorem dX8_thing_17 : decode cX8_thing 17 = .ok (.invokevirtual 45, 3) := by decide +kernel
theorem dX8_thing_20 : decode cX8_thing 20 = .ok (.ireturn, 1) := by decide +kernel
theorem dX8_thing_21 : decode cX8_thing 21 = .ok (.iload_n 1, 1) := by decide +kernel
theorem dX8_thing_22 : decode cX8_thing 22 = .ok (.aload_n 0, 1) := by decide +kernel
theorem dX8_thing_23 : decode cX8_thing 23 = .ok (.getfield 22, 3) := by decide +kernel
theorem dX8_thing_26 : decode cX8_thing 26 = .ok (.if_icmp .lt 9, 3) := by decide +kernel
theorem dX8_thing_29 : decode cX8_thing 29 = .ok (.aload_n 0, 1) := by decide +kernel
theorem dX8_thing_30 : decode cX8_thing 30 = .ok (.iconst 2, 1) := by decide +kernel
theorem dX8_thing_31 : decode cX8_thing 31 = .ok (.invokevirtual 45, 3) := by decide +kernel
theorem dX8_thing_34 : decode cX8_thing 34 = .ok (.ireturn, 1) := by decide +kernel
theorem dX8_thing_35 : decode cX8_thing 35 = .ok (.aload_n 0, 1) := by decide +kernel
theorem dX8_thing_36 : decode cX8_thing 36 = .ok (.getfield 60, 3) := by decide +kernel
theorem dX8_thing_39 : decode cX8_thing 39 = .ok (.istore_n 2, 1) := by decide +kernel
theorem dX8_thing_40 : decode cX8_thing 40 = .ok (.aload_n 0, 1) := by decide +kernel
theorem dX8_thing_41 : decode cX8_thing 41 = .ok (.iload_n 1, 1) := by decide +kernel
theorem dX8_thing_42 : decode cX8_thing 42 = .ok (.putfield 60, 3) := by decide +kernel
theorem dX8_thing_45 : decode cX8_thing 45 = .ok (.iload_n 2, 1) := by decide +kernel
theorem dX8_thing_46 : decode cX8_thing 46 = .ok (.ireturn, 1) := by decide +kernel
set_option maxRecDepth 20000 in
theorem ggX8_screen_X8_is : GoodIn wsX8_screen wsX8_is := goodIn_r _ [7] rfl (by decide +kernel)
set_option maxRecDepth 20000 in
theorem gX8_screen_X8_is : GoodIn wsX8_screen (va_wsS RX8 48 yX8_is wsX8_is) := goodIn_app (goodIn_of _ (by decide +kernel)) ggX8_screen_X8_is
set_option maxRecDepth 20000 in
theorem ggX8_screen_X8_refuse : GoodIn wsX8_screen wsX8_refuse := goodIn_r _ [11, 1, 12, 13, 14, 15, 16, 17, 18, 19, 20, 21, 22, 23, 24, 25] rfl (by decide +kernel)
set_option maxRecDepth 20000 in
theorem gX8_screen_X8_refuse : GoodIn wsX8_screen (wsV RX8 45 RX8 yX8_refuse wsX8_refuse) := goodIn_app (goodIn_of _ (by decide +kernel)) ggX8_screen_X8_refuse
theorem dX8_screen_0 : decode cX8_screen 0 = .ok (.aload_n 0, 1) := by decide +kernel
theorem dX8_screen_1 : decode cX8_screen 1 = .ok (.iconst 0, 1) := by decide +kernel
theorem dX8_screen_2 : decode cX8_screen 2 = .ok (.putfield 29, 3) := by decide +kernel
theorem dX8_screen_5 : decode cX8_screen 5 = .ok (.iload_n 1, 1) := by decide +kernel
theorem dX8_screen_6 : decode cX8_screen 6 = .ok (.iconst 0, 1) := by decide +kernel
theorem dX8_screen_7 : decode cX8_screen 7 = .ok (.bipush 99, 2) := by decide +kernel
theorem dX8_screen_9 : decode cX8_screen 9 = .ok (.invokestatic 48, 3) := by decide +kernel
theorem dX8_screen_12 : decode cX8_screen 12 = .ok (.ifCond .ne 9, 3) := by decide +kernel
theorem dX8_screen_15 : decode cX8_screen 15 = .ok (.aload_n 0, 1) := by decide +kernel
theorem dX8_screen_16 : decode cX8_screen 16 = .ok (.iconst 1, 1) := by decide +kernel
theorem dX8_screen_17 : decode cX8_screen 17 = .ok (.invokevirtual 45, 3) := by decide +kernel
theorem dX8_screen_20 : decode cX8_screen 20 = .ok (.ireturn, 1) := by decide +kernel
theorem dX8_screen_21 : decode cX8_screen 21 = .ok (.iload_n 1, 1) := by decide +kernel
theorem dX8_screen_22 : decode cX8_screen 22 = .ok (.aload_n 0, 1) := by decide +kernel
theorem dX8_screen_23 : decode cX8_screen 23 = .ok (.getfield 60, 3) := by decide +kernel
theorem dX8_screen_26 : decode cX8_screen 26 = .ok (.if_icmp .gt 9, 3) := by decide +kernel
theorem dX8_screen_29 : decode cX8_screen 29 = .ok (.aload_n 0, 1) := by decide +kernel
theorem dX8_screen_30 : decode cX8_screen 30 = .ok (.iconst 2, 1) := by decide +kernel
theorem dX8_screen_31 : decode cX8_screen 31 = .ok (.invokevirtual 45, 3) := by decide +kernel
theorem dX8_screen_34 : decode cX8_screen 34 = .ok (.ireturn, 1) := by decide +kernel
theorem dX8_screen_35 : decode cX8_screen 35 = .ok (.aload_n 0, 1) := by decide +kernel
theorem dX8_screen_36 : decode cX8_screen 36 = .ok (.getfield 22, 3) := by decide +kernel
theorem dX8_screen_39 : decode cX8_screen 39 = .ok (.istore_n 2, 1) := by decide +kernel
theorem dX8_screen_40 : decode cX8_screen 40 = .ok (.aload_n 0, 1) := by decide +kernel
theorem dX8_screen_41 : decode cX8_screen 41 = .ok (.iload_n 1, 1) := by decide +kernel
theorem dX8_screen_42 : decode cX8_screen 42 = .ok (.putfield 22, 3) := by decide +kernel
theorem dX8_screen_45 : decode cX8_screen 45 = .ok (.iload_n 2, 1) := by decide +kernel
theorem dX8_screen_46 : decode cX8_screen 46 = .ok (.ireturn, 1) := by decide +kernel
set_option maxRecDepth 20000 in
theorem ggX8_tall_X8_is : GoodIn wsX8_tall wsX8_is := goodIn_r _ [6] rfl (by decide +kernel)
set_option maxRecDepth 20000 in
theorem gX8_tall_X8_is : GoodIn wsX8_tall (va_wsS RX8 48 yX8_is wsX8_is) := goodIn_app (goodIn_of _ (by decide +kernel)) ggX8_tall_X8_is
set_option maxRecDepth 20000 in
theorem ggX8_tall_X8_refuse : GoodIn wsX8_tall wsX8_refuse := goodIn_r _ [10, 1, 11, 12, 13, 14, 15, 16, 17, 18, 19, 20, 21, 22, 23, 24] rfl (by decide +kernel)
set_option maxRecDepth 20000 in
theorem gX8_tall_X8_refuse : GoodIn wsX8_tall (wsV RX8 45 RX8 yX8_refuse wsX8_refuse) := goodIn_app (goodIn_of _ (by decide +kernel)) ggX8_tall_X8_refuse
theorem dX8_tall_0 : decode cX8_tall 0 = .ok (.aload_n 0, 1) := by decide +kernel
theorem dX8_tall_1 : decode cX8_tall 1 = .ok (.iconst 0, 1) := by decide +kernel
theorem dX8_tall_2 : decode cX8_tall 2 = .ok (.putfield 29, 3) := by decide +kernel
theorem dX8_tall_5 : decode cX8_tall 5 = .ok (.iload_n 1, 1) := by decide +kernel
theorem dX8_tall_6 : decode cX8_tall 6 = .ok (.iconst 0, 1) := by decide +kernel
theorem dX8_tall_7 : decode cX8_tall 7 = .ok (.bipush 80, 2) := by decide +kernel
theorem dX8_tall_9 : decode cX8_tall 9 = .ok (.invokestatic 48, 3) := by decide +kernel
theorem dX8_tall_12 : decode cX8_tall 12 = .ok (.ifCond .ne 9, 3) := by decide +kernel
theorem dX8_tall_15 : decode cX8_tall 15 = .ok (.aload_n 0, 1) := by decide +kernel
theorem dX8_tall_16 : decode cX8_tall 16 = .ok (.iconst 1, 1) := by decide +kernel
theorem dX8_tall_17 : decode cX8_tall 17 = .ok (.invokevirtual 45, 3) := by decide +kernel
theorem dX8_tall_20 : decode cX8_tall 20 = .ok (.ireturn, 1) := by decide +kernel
theorem dX8_tall_21 : decode cX8_tall 21 = .ok (.aload_n 0, 1) := by decide +kernel
theorem dX8_tall_22 : decode cX8_tall 22 = .ok (.getfield 26, 3) := by decide +kernel
theorem dX8_tall_25 : decode cX8_tall 25 = .ok (.istore_n 2, 1) := by decide +kernel
theorem dX8_tall_26 : decode cX8_tall 26 = .ok (.aload_n 0, 1) := by decide +kernel
theorem dX8_tall_27 : decode cX8_tall 27 = .ok (.iload_n 1, 1) := by decide +kernel
theorem dX8_tall_28 : decode cX8_tall 28 = .ok (.putfield 26, 3) := by decide +kernel
theorem dX8_tall_31 : decode cX8_tall 31 = .ok (.iload_n 2, 1) := by decide +kernel
theorem dX8_tall_32 : decode cX8_tall 32 = .ok (.ireturn, 1) := by decide +kernel
theorem dX8_rattle_0 : decode cX8_rattle 0 = .ok (.aload_n 0, 1) := by decide +kernel
theorem dX8_rattle_1 : decode cX8_rattle 1 = .ok (.iconst 0, 1) := by decide +kernel
theorem dX8_rattle_2 : decode cX8_rattle 2 = .ok (.putfield 29, 3) := by decide +kernel
theorem dX8_rattle_5 : decode cX8_rattle 5 = .ok (.aload_n 0, 1) := by decide +kernel
theorem dX8_rattle_6 : decode cX8_rattle 6 = .ok (.dup, 1) := by decide +kernel
theorem dX8_rattle_7 : decode cX8_rattle 7 = .ok (.getfield 63, 3) := by decide +kernel
theorem dX8_rattle_10 : decode cX8_rattle 10 = .ok (.iconst 1, 1) := by decide +kernel
theorem dX8_rattle_11 : decode cX8_rattle 11 = .ok (.iadd, 1) := by decide +kernel
theorem dX8_rattle_12 : decode cX8_rattle 12 = .ok (.putfield 63, 3) := by decide +kernel
theorem dX8_rattle_15 : decode cX8_rattle 15 = .ok (.aload_n 0, 1) := by decide +kernel
theorem dX8_rattle_16 : decode cX8_rattle 16 = .ok (.getfield 63, 3) := by decide +kernel
theorem dX8_rattle_19 : decode cX8_rattle 19 = .ok (.ireturn, 1) := by decide +kernel
set_option maxRecDepth 20000 in
theorem ggX8_go_X8_next : GoodIn wsX8_go wsX8_next := goodIn_r _ [13, 14, 5, 8, 35, 36, 37, 38, 39, 40, 41, 42, 43, 44, 45, 46, 47, 48] rfl (by decide +kernel)
set_option maxRecDepth 20000 in
theorem gX8_go_X8_next : GoodIn wsX8_go (wsV RX8 76 RX8 yX8_next wsX8_next) := goodIn_app (goodIn_of _ (by decide +kernel)) ggX8_go_X8_next
set_option maxRecDepth 20000 in
theorem ggX8_go_J9_abs_294c1 : GoodIn wsX8_go wsJ9_abs_294c1 := goodIn_r _ [18, 19, 20, 21, 22, 23, 24, 25, 26] rfl (by decide +kernel)
set_option maxRecDepth 20000 in
theorem gX8_go_J9_abs_294c1 : GoodIn wsX8_go (va_wsS RX8 79 yJ9_abs_294c1 wsJ9_abs_294c1) := goodIn_app (goodIn_of _ (by decide +kernel)) ggX8_go_J9_abs_294c1
set_option maxRecDepth 20000 in
theorem ggX8_go_X8_strengthNow : GoodIn wsX8_go wsX8_strengthNow := goodIn_r _ [30, 7, 31, 32, 33, 34, 35, 36, 37, 38, 39, 40, 41, 42, 43, 44, 45, 46, 47, 48] rfl (by decide +kernel)
set_option maxRecDepth 20000 in
theorem gX8_go_X8_strengthNow : GoodIn wsX8_go (wsV RX8 85 RX8 yX8_strengthNow wsX8_strengthNow) := goodIn_app (goodIn_of _ (by decide +kernel)) ggX8_go_X8_strengthNow
theorem dX8_go_0 : decode cX8_go 0 = .ok (.aload_n 0, 1) := by decide +kernel
theorem dX8_go_1 : decode cX8_go 1 = .ok (.dload_n 1, 1) := by decide +kernel
theorem dX8_go_2 : decode cX8_go 2 = .ok (.putfield 66, 3) := by decide +kernel
theorem dX8_go_5 : decode cX8_go 5 = .ok (.aload_n 0, 1) := by decide +kernel
theorem dX8_go_6 : decode cX8_go 6 = .ok (.dload_n 3, 1) := by decide +kernel
theorem dX8_go_7 : decode cX8_go 7 = .ok (.putfield 70, 3) := by decide +kernel
theorem dX8_go_10 : decode cX8_go 10 = .ok (.aload_n 0, 1) := by decide +kernel
theorem dX8_go_11 : decode cX8_go 11 = .ok (.iconst (-1), 1) := by decide +kernel
theorem dX8_go_12 : decode cX8_go 12 = .ok (.putfield 73, 3) := by decide +kernel
theorem dX8_go_15 : decode cX8_go 15 = .ok (.aload_n 0, 1) := by decide +kernel
theorem dX8_go_16 : decode cX8_go 16 = .ok (.getfield 60, 3) := by decide +kernel
theorem dX8_go_19 : decode cX8_go 19 = .ok (.istore 7, 2) := by decide +kernel
theorem dX8_go_21 : decode cX8_go 21 = .ok (.aload_n 0, 1) := by decide +kernel
theorem dX8_go_22 : decode cX8_go 22 = .ok (.iload 7, 2) := by decide +kernel
theorem dX8_go_24 : decode cX8_go 24 = .ok (.invokevirtual 76, 3) := by decide +kernel
theorem dX8_go_27 : decode cX8_go 27 = .ok (.istore 8, 2) := by decide +kernel
theorem dX8_go_29 : decode cX8_go 29 = .ok (.iload 8, 2) := by decide +kernel
theorem dX8_go_31 : decode cX8_go 31 = .ok (.iconst (-1), 1) := by decide +kernel
theorem dX8_go_32 : decode cX8_go 32 = .ok (.if_icmp .eq 125, 3) := by decide +kernel
theorem dX8_go_35 : decode cX8_go 35 = .ok (.iload 8, 2) := by decide +kernel
theorem dX8_go_37 : decode cX8_go 37 = .ok (.iload 6, 2) := by decide +kernel
theorem dX8_go_39 : decode cX8_go 39 = .ok (.if_icmp .ne 6, 3) := by decide +kernel
theorem dX8_go_42 : decode cX8_go 42 = .ok (.goto 99, 3) := by decide +kernel
theorem dX8_go_45 : decode cX8_go 45 = .ok (.aload_n 0, 1) := by decide +kernel
theorem dX8_go_46 : decode cX8_go 46 = .ok (.getfield 9, 3) := by decide +kernel
theorem dX8_go_49 : decode cX8_go 49 = .ok (.iload 8, 2) := by decide +kernel
theorem dX8_go_51 : decode cX8_go 51 = .ok (.iaload, 1) := by decide +kernel
theorem dX8_go_52 : decode cX8_go 52 = .ok (.iload 7, 2) := by decide +kernel
theorem dX8_go_54 : decode cX8_go 54 = .ok (.isub, 1) := by decide +kernel
theorem dX8_go_55 : decode cX8_go 55 = .ok (.istore 9, 2) := by decide +kernel
theorem dX8_go_57 : decode cX8_go 57 = .ok (.aload_n 0, 1) := by decide +kernel
theorem dX8_go_58 : decode cX8_go 58 = .ok (.aload_n 0, 1) := by decide +kernel
theorem dX8_go_59 : decode cX8_go 59 = .ok (.getfield 66, 3) := by decide +kernel
theorem dX8_go_62 : decode cX8_go 62 = .ok (.aload_n 0, 1) := by decide +kernel
theorem dX8_go_63 : decode cX8_go 63 = .ok (.getfield 70, 3) := by decide +kernel
theorem dX8_go_66 : decode cX8_go 66 = .ok (.iload 9, 2) := by decide +kernel
theorem dX8_go_68 : decode cX8_go 68 = .ok (.i2d, 1) := by decide +kernel
theorem dX8_go_69 : decode cX8_go 69 = .ok (.dmul, 1) := by decide +kernel
theorem dX8_go_70 : decode cX8_go 70 = .ok (.dadd, 1) := by decide +kernel
theorem dX8_go_71 : decode cX8_go 71 = .ok (.putfield 66, 3) := by decide +kernel
theorem dX8_go_74 : decode cX8_go 74 = .ok (.aload_n 0, 1) := by decide +kernel
theorem dX8_go_75 : decode cX8_go 75 = .ok (.getfield 9, 3) := by decide +kernel
theorem dX8_go_78 : decode cX8_go 78 = .ok (.iload 8, 2) := by decide +kernel
theorem dX8_go_80 : decode cX8_go 80 = .ok (.iaload, 1) := by decide +kernel
theorem dX8_go_81 : decode cX8_go 81 = .ok (.istore 7, 2) := by decide +kernel
theorem dX8_go_83 : decode cX8_go 83 = .ok (.aload_n 0, 1) := by decide +kernel
theorem dX8_go_84 : decode cX8_go 84 = .ok (.getfield 66, 3) := by decide +kernel
theorem dX8_go_87 : decode cX8_go 87 = .ok (.invokestatic 79, 3) := by decide +kernel
theorem dX8_go_90 : decode cX8_go 90 = .ok (.aload_n 0, 1) := by decide +kernel
theorem dX8_go_91 : decode cX8_go 91 = .ok (.getfield 13, 3) := by decide +kernel
theorem dX8_go_94 : decode cX8_go 94 = .ok (.iload 8, 2) := by decide +kernel
theorem dX8_go_96 : decode cX8_go 96 = .ok (.iaload, 1) := by decide +kernel
theorem dX8_go_97 : decode cX8_go 97 = .ok (.i2d, 1) := by decide +kernel
theorem dX8_go_98 : decode cX8_go 98 = .ok (.dcmp .l, 1) := by decide +kernel
theorem dX8_go_99 : decode cX8_go 99 = .ok (.ifCond .le 10, 3) := by decide +kernel
theorem dX8_go_102 : decode cX8_go 102 = .ok (.aload_n 0, 1) := by decide +kernel
theorem dX8_go_103 : decode cX8_go 103 = .ok (.iload 8, 2) := by decide +kernel
theorem dX8_go_105 : decode cX8_go 105 = .ok (.putfield 73, 3) := by decide +kernel
theorem dX8_go_108 : decode cX8_go 108 = .ok (.return_, 1) := by decide +kernel
theorem dX8_go_109 : decode cX8_go 109 = .ok (.aload_n 0, 1) := by decide +kernel
theorem dX8_go_110 : decode cX8_go 110 = .ok (.getfield 16, 3) := by decide +kernel
theorem dX8_go_113 : decode cX8_go 113 = .ok (.iload 8, 2) := by decide +kernel
theorem dX8_go_115 : decode cX8_go 115 = .ok (.iaload, 1) := by decide +kernel
theorem dX8_go_116 : decode cX8_go 116 = .ok (.ifCond .eq 25, 3) := by decide +kernel
theorem dX8_go_119 : decode cX8_go 119 = .ok (.aload_n 0, 1) := by decide +kernel
theorem dX8_go_120 : decode cX8_go 120 = .ok (.aload_n 0, 1) := by decide +kernel
theorem dX8_go_121 : decode cX8_go 121 = .ok (.getfield 70, 3) := by decide +kernel
theorem dX8_go_124 : decode cX8_go 124 = .ok (.aload_n 0, 1) := by decide +kernel
theorem dX8_go_125 : decode cX8_go 125 = .ok (.getfield 66, 3) := by decide +kernel
theorem dX8_go_128 : decode cX8_go 128 = .ok (.aload_n 0, 1) := by decide +kernel
theorem dX8_go_129 : decode cX8_go 129 = .ok (.iload 8, 2) := by decide +kernel
theorem dX8_go_131 : decode cX8_go 131 = .ok (.iload 5, 2) := by decide +kernel
theorem dX8_go_133 : decode cX8_go 133 = .ok (.invokevirtual 85, 3) := by decide +kernel
theorem dX8_go_136 : decode cX8_go 136 = .ok (.dmul, 1) := by decide +kernel
theorem dX8_go_137 : decode cX8_go 137 = .ok (.dsub, 1) := by decide +kernel
theorem dX8_go_138 : decode cX8_go 138 = .ok (.putfield 70, 3) := by decide +kernel
theorem dX8_go_141 : decode cX8_go 141 = .ok (.aload_n 0, 1) := by decide +kernel
theorem dX8_go_142 : decode cX8_go 142 = .ok (.aload_n 0, 1) := by decide +kernel
theorem dX8_go_143 : decode cX8_go 143 = .ok (.getfield 9, 3) := by decide +kernel
theorem dX8_go_146 : decode cX8_go 146 = .ok (.iload 8, 2) := by decide +kernel
theorem dX8_go_148 : decode cX8_go 148 = .ok (.iaload, 1) := by decide +kernel
theorem dX8_go_149 : decode cX8_go 149 = .ok (.invokevirtual 76, 3) := by decide +kernel
theorem dX8_go_152 : decode cX8_go 152 = .ok (.istore 8, 2) := by decide +kernel
theorem dX8_go_154 : decode cX8_go 154 = .ok (.goto (-125), 3) := by decide +kernel
theorem dX8_go_157 : decode cX8_go 157 = .ok (.aload_n 0, 1) := by decide +kernel
theorem dX8_go_158 : decode cX8_go 158 = .ok (.getfield 22, 3) := by decide +kernel
theorem dX8_go_161 : decode cX8_go 161 = .ok (.iload 7, 2) := by decide +kernel
theorem dX8_go_163 : decode cX8_go 163 = .ok (.isub, 1) := by decide +kernel
theorem dX8_go_164 : decode cX8_go 164 = .ok (.istore 8, 2) := by decide +kernel
theorem dX8_go_166 : decode cX8_go 166 = .ok (.aload_n 0, 1) := by decide +kernel
theorem dX8_go_167 : decode cX8_go 167 = .ok (.aload_n 0, 1) := by decide +kernel
theorem dX8_go_168 : decode cX8_go 168 = .ok (.getfield 66, 3) := by decide +kernel
theorem dX8_go_171 : decode cX8_go 171 = .ok (.aload_n 0, 1) := by decide +kernel
theorem dX8_go_172 : decode cX8_go 172 = .ok (.getfield 70, 3) := by decide +kernel
theorem dX8_go_175 : decode cX8_go 175 = .ok (.iload 8, 2) := by decide +kernel
theorem dX8_go_177 : decode cX8_go 177 = .ok (.i2d, 1) := by decide +kernel
theorem dX8_go_178 : decode cX8_go 178 = .ok (.dmul, 1) := by decide +kernel
theorem dX8_go_179 : decode cX8_go 179 = .ok (.dadd, 1) := by decide +kernel
theorem dX8_go_180 : decode cX8_go 180 = .ok (.putfield 66, 3) := by decide +kernel
theorem dX8_go_183 : decode cX8_go 183 = .ok (.return_, 1) := by decide +kernel
set_option maxRecDepth 20000 in
theorem ggX8_light_X8_go : GoodIn wsX8_light wsX8_go := goodIn_r _ [9, 10, 11, 4, 12, 13, 14, 15, 16, 17, 18, 19, 8, 20, 21, 22, 23, 24, 25, 26, 27, 28, 29, 30, 31, 32, 33, 34, 35, 36, 37, 38, 39, 40, 41, 42, 43, 44, 45, 46, 47, 48, 49, 50, 51, 52, 53, 54, 55] rfl (by decide +kernel)
set_option maxRecDepth 20000 in
theorem gX8_light_X8_go : GoodIn wsX8_light (wsV RX8 93 RX8 yX8_go wsX8_go) := goodIn_app (goodIn_of _ (by decide +kernel)) ggX8_light_X8_go
theorem dX8_light_0 : decode cX8_light 0 = .ok (.iconst 0, 1) := by decide +kernel
theorem dX8_light_1 : decode cX8_light 1 = .ok (.istore_n 2, 1) := by decide +kernel
theorem dX8_light_2 : decode cX8_light 2 = .ok (.bipush (-10), 2) := by decide +kernel
theorem dX8_light_4 : decode cX8_light 4 = .ok (.istore_n 3, 1) := by decide +kernel
theorem dX8_light_5 : decode cX8_light 5 = .ok (.iload_n 3, 1) := by decide +kernel
theorem dX8_light_6 : decode cX8_light 6 = .ok (.bipush 10, 2) := by decide +kernel
theorem dX8_light_8 : decode cX8_light 8 = .ok (.if_icmp .gt 46, 3) := by decide +kernel
theorem dX8_light_11 : decode cX8_light 11 = .ok (.aload_n 0, 1) := by decide +kernel
theorem dX8_light_12 : decode cX8_light 12 = .ok (.aload_n 0, 1) := by decide +kernel
theorem dX8_light_13 : decode cX8_light 13 = .ok (.getfield 26, 3) := by decide +kernel
theorem dX8_light_16 : decode cX8_light 16 = .ok (.i2d, 1) := by decide +kernel
theorem dX8_light_17 : decode cX8_light 17 = .ok (.ldc2_w 89, 3) := by decide +kernel
theorem dX8_light_20 : decode cX8_light 20 = .ok (.ddiv, 1) := by decide +kernel
theorem dX8_light_21 : decode cX8_light 21 = .ok (.iload_n 3, 1) := by decide +kernel
theorem dX8_light_22 : decode cX8_light 22 = .ok (.i2d, 1) := by decide +kernel
theorem dX8_light_23 : decode cX8_light 23 = .ok (.ldc2_w 91, 3) := by decide +kernel
theorem dX8_light_26 : decode cX8_light 26 = .ok (.ddiv, 1) := by decide +kernel
theorem dX8_light_27 : decode cX8_light 27 = .ok (.iconst 1, 1) := by decide +kernel
theorem dX8_light_28 : decode cX8_light 28 = .ok (.iload_n 1, 1) := by decide +kernel
theorem dX8_light_29 : decode cX8_light 29 = .ok (.invokevirtual 93, 3) := by decide +kernel
theorem dX8_light_32 : decode cX8_light 32 = .ok (.iload_n 2, 1) := by decide +kernel
theorem dX8_light_33 : decode cX8_light 33 = .ok (.aload_n 0, 1) := by decide +kernel
theorem dX8_light_34 : decode cX8_light 34 = .ok (.getfield 73, 3) := by decide +kernel
theorem dX8_light_37 : decode cX8_light 37 = .ok (.iconst (-1), 1) := by decide +kernel
theorem dX8_light_38 : decode cX8_light 38 = .ok (.if_icmp .ne 7, 3) := by decide +kernel
theorem dX8_light_41 : decode cX8_light 41 = .ok (.iconst 1, 1) := by decide +kernel
theorem dX8_light_42 : decode cX8_light 42 = .ok (.goto 4, 3) := by decide +kernel
theorem dX8_light_45 : decode cX8_light 45 = .ok (.iconst 0, 1) := by decide +kernel
theorem dX8_light_46 : decode cX8_light 46 = .ok (.iadd, 1) := by decide +kernel
theorem dX8_light_47 : decode cX8_light 47 = .ok (.istore_n 2, 1) := by decide +kernel
theorem dX8_light_48 : decode cX8_light 48 = .ok (.iinc 3 1, 3) := by decide +kernel
theorem dX8_light_51 : decode cX8_light 51 = .ok (.goto (-46), 3) := by decide +kernel
theorem dX8_light_54 : decode cX8_light 54 = .ok (.iload_n 2, 1) := by decide +kernel
theorem dX8_light_55 : decode cX8_light 55 = .ok (.ireturn, 1) := by decide +kernel
set_option maxRecDepth 20000 in
theorem ggX8_blurNow_X8_go : GoodIn wsX8_blurNow wsX8_go := goodIn_r _ [11, 5, 12, 4, 13, 14, 15, 16, 17, 18, 19, 20, 10, 21, 22, 23, 24, 25, 26, 27, 28, 29, 30, 31, 32, 33, 34, 35, 36, 37, 38, 39, 40, 41, 42, 53, 54, 55, 56, 57, 58, 59, 60, 61, 62, 63, 64, 65, 66] rfl (by decide +kernel)
set_option maxRecDepth 20000 in
theorem gX8_blurNow_X8_go : GoodIn wsX8_blurNow (wsV RX8 93 RX8 yX8_go wsX8_go) := goodIn_app (goodIn_of _ (by decide +kernel)) ggX8_blurNow_X8_go
set_option maxRecDepth 20000 in
theorem ggX8_blurNow_J9_min_eb370 : GoodIn wsX8_blurNow wsJ9_min_eb370 := goodIn_r _ [45, 27, 28, 29, 30, 46] rfl (by decide +kernel)
set_option maxRecDepth 20000 in
theorem gX8_blurNow_J9_min_eb370 : GoodIn wsX8_blurNow (va_wsS RX8 97 yJ9_min_eb370 wsJ9_min_eb370) := goodIn_app (goodIn_of _ (by decide +kernel)) ggX8_blurNow_J9_min_eb370
set_option maxRecDepth 20000 in
theorem ggX8_blurNow_J9_max_eb370 : GoodIn wsX8_blurNow wsJ9_max_eb370 := goodIn_r _ [49, 27, 28, 29, 30, 46] rfl (by decide +kernel)
set_option maxRecDepth 20000 in
theorem gX8_blurNow_J9_max_eb370 : GoodIn wsX8_blurNow (va_wsS RX8 101 yJ9_max_eb370 wsJ9_max_eb370) := goodIn_app (goodIn_of _ (by decide +kernel)) ggX8_blurNow_J9_max_eb370
set_option maxRecDepth 20000 in
theorem ggX8_blurNow_X8_plain : GoodIn wsX8_blurNow wsX8_plain := goodIn_r _ [52] rfl (by decide +kernel)
set_option maxRecDepth 20000 in
theorem gX8_blurNow_X8_plain : GoodIn wsX8_blurNow (va_wsS RX8 104 yX8_plain wsX8_plain) := goodIn_app (goodIn_of _ (by decide +kernel)) ggX8_blurNow_X8_plain
theorem dX8_blurNow_0 : decode cX8_blurNow 0 = .ok (.dconst 0, 1) := by decide +kernel
theorem dX8_blurNow_1 : decode cX8_blurNow 1 = .ok (.dstore_n 2, 1) := by decide +kernel
theorem dX8_blurNow_2 : decode cX8_blurNow 2 = .ok (.dconst 0, 1) := by decide +kernel
theorem dX8_blurNow_3 : decode cX8_blurNow 3 = .ok (.dstore 4, 2) := by decide +kernel
theorem dX8_blurNow_5 : decode cX8_blurNow 5 = .ok (.iconst 0, 1) := by decide +kernel
theorem dX8_blurNow_6 : decode cX8_blurNow 6 = .ok (.istore 6, 2) := by decide +kernel
theorem dX8_blurNow_8 : decode cX8_blurNow 8 = .ok (.bipush (-10), 2) := by decide +kernel
theorem dX8_blurNow_10 : decode cX8_blurNow 10 = .ok (.istore 7, 2) := by decide +kernel
theorem dX8_blurNow_12 : decode cX8_blurNow 12 = .ok (.iload 7, 2) := by decide +kernel
theorem dX8_blurNow_14 : decode cX8_blurNow 14 = .ok (.bipush 10, 2) := by decide +kernel
theorem dX8_blurNow_16 : decode cX8_blurNow 16 = .ok (.if_icmp .gt 89, 3) := by decide +kernel
theorem dX8_blurNow_19 : decode cX8_blurNow 19 = .ok (.aload_n 0, 1) := by decide +kernel
theorem dX8_blurNow_20 : decode cX8_blurNow 20 = .ok (.aload_n 0, 1) := by decide +kernel
theorem dX8_blurNow_21 : decode cX8_blurNow 21 = .ok (.getfield 26, 3) := by decide +kernel
theorem dX8_blurNow_24 : decode cX8_blurNow 24 = .ok (.i2d, 1) := by decide +kernel
theorem dX8_blurNow_25 : decode cX8_blurNow 25 = .ok (.ldc2_w 89, 3) := by decide +kernel
theorem dX8_blurNow_28 : decode cX8_blurNow 28 = .ok (.ddiv, 1) := by decide +kernel
theorem dX8_blurNow_29 : decode cX8_blurNow 29 = .ok (.iload 7, 2) := by decide +kernel
theorem dX8_blurNow_31 : decode cX8_blurNow 31 = .ok (.i2d, 1) := by decide +kernel
theorem dX8_blurNow_32 : decode cX8_blurNow 32 = .ok (.ldc2_w 91, 3) := by decide +kernel
theorem dX8_blurNow_35 : decode cX8_blurNow 35 = .ok (.ddiv, 1) := by decide +kernel
theorem dX8_blurNow_36 : decode cX8_blurNow 36 = .ok (.iload_n 1, 1) := by decide +kernel
theorem dX8_blurNow_37 : decode cX8_blurNow 37 = .ok (.iconst (-1), 1) := by decide +kernel
theorem dX8_blurNow_38 : decode cX8_blurNow 38 = .ok (.invokevirtual 93, 3) := by decide +kernel
theorem dX8_blurNow_41 : decode cX8_blurNow 41 = .ok (.aload_n 0, 1) := by decide +kernel
theorem dX8_blurNow_42 : decode cX8_blurNow 42 = .ok (.getfield 73, 3) := by decide +kernel
theorem dX8_blurNow_45 : decode cX8_blurNow 45 = .ok (.iconst (-1), 1) := by decide +kernel
theorem dX8_blurNow_46 : decode cX8_blurNow 46 = .ok (.if_icmp .eq 6, 3) := by decide +kernel
theorem dX8_blurNow_49 : decode cX8_blurNow 49 = .ok (.goto 50, 3) := by decide +kernel
theorem dX8_blurNow_52 : decode cX8_blurNow 52 = .ok (.iload 6, 2) := by decide +kernel
theorem dX8_blurNow_54 : decode cX8_blurNow 54 = .ok (.ifCond .eq 14, 3) := by decide +kernel
theorem dX8_blurNow_57 : decode cX8_blurNow 57 = .ok (.dload_n 2, 1) := by decide +kernel
theorem dX8_blurNow_58 : decode cX8_blurNow 58 = .ok (.aload_n 0, 1) := by decide +kernel
theorem dX8_blurNow_59 : decode cX8_blurNow 59 = .ok (.getfield 66, 3) := by decide +kernel
theorem dX8_blurNow_62 : decode cX8_blurNow 62 = .ok (.invokestatic 97, 3) := by decide +kernel
theorem dX8_blurNow_65 : decode cX8_blurNow 65 = .ok (.goto 7, 3) := by decide +kernel
theorem dX8_blurNow_68 : decode cX8_blurNow 68 = .ok (.aload_n 0, 1) := by decide +kernel
theorem dX8_blurNow_69 : decode cX8_blurNow 69 = .ok (.getfield 66, 3) := by decide +kernel
theorem dX8_blurNow_72 : decode cX8_blurNow 72 = .ok (.dstore_n 2, 1) := by decide +kernel
theorem dX8_blurNow_73 : decode cX8_blurNow 73 = .ok (.iload 6, 2) := by decide +kernel
theorem dX8_blurNow_75 : decode cX8_blurNow 75 = .ok (.ifCond .eq 15, 3) := by decide +kernel
theorem dX8_blurNow_78 : decode cX8_blurNow 78 = .ok (.dload 4, 2) := by decide +kernel
theorem dX8_blurNow_80 : decode cX8_blurNow 80 = .ok (.aload_n 0, 1) := by decide +kernel
theorem dX8_blurNow_81 : decode cX8_blurNow 81 = .ok (.getfield 66, 3) := by decide +kernel
theorem dX8_blurNow_84 : decode cX8_blurNow 84 = .ok (.invokestatic 101, 3) := by decide +kernel
theorem dX8_blurNow_87 : decode cX8_blurNow 87 = .ok (.goto 7, 3) := by decide +kernel
theorem dX8_blurNow_90 : decode cX8_blurNow 90 = .ok (.aload_n 0, 1) := by decide +kernel
theorem dX8_blurNow_91 : decode cX8_blurNow 91 = .ok (.getfield 66, 3) := by decide +kernel
theorem dX8_blurNow_94 : decode cX8_blurNow 94 = .ok (.dstore 4, 2) := by decide +kernel
theorem dX8_blurNow_96 : decode cX8_blurNow 96 = .ok (.iconst 1, 1) := by decide +kernel
theorem dX8_blurNow_97 : decode cX8_blurNow 97 = .ok (.istore 6, 2) := by decide +kernel
theorem dX8_blurNow_99 : decode cX8_blurNow 99 = .ok (.iinc 7 1, 3) := by decide +kernel
theorem dX8_blurNow_102 : decode cX8_blurNow 102 = .ok (.goto (-90), 3) := by decide +kernel
theorem dX8_blurNow_105 : decode cX8_blurNow 105 = .ok (.iload 6, 2) := by decide +kernel
theorem dX8_blurNow_107 : decode cX8_blurNow 107 = .ok (.ifCond .eq 13, 3) := by decide +kernel
theorem dX8_blurNow_110 : decode cX8_blurNow 110 = .ok (.dload 4, 2) := by decide +kernel
theorem dX8_blurNow_112 : decode cX8_blurNow 112 = .ok (.dload_n 2, 1) := by decide +kernel
theorem dX8_blurNow_113 : decode cX8_blurNow 113 = .ok (.dsub, 1) := by decide +kernel
theorem dX8_blurNow_114 : decode cX8_blurNow 114 = .ok (.invokestatic 104, 3) := by decide +kernel
theorem dX8_blurNow_117 : decode cX8_blurNow 117 = .ok (.goto 6, 3) := by decide +kernel
theorem dX8_blurNow_120 : decode cX8_blurNow 120 = .ok (.ldc2_w 107, 3) := by decide +kernel
theorem dX8_blurNow_123 : decode cX8_blurNow 123 = .ok (.dreturn, 1) := by decide +kernel
set_option maxRecDepth 20000 in
theorem ggX8_throughNow_X8_orderOf : GoodIn wsX8_throughNow wsX8_orderOf := goodIn_r _ [10, 11, 5, 12, 13, 14, 9, 15, 16, 17, 46, 47, 48, 49, 50, 51, 52, 53, 54, 55, 56, 57, 58, 59] rfl (by decide +kernel)
set_option maxRecDepth 20000 in
theorem gX8_throughNow_X8_orderOf : GoodIn wsX8_throughNow (wsV RX8 109 RX8 yX8_orderOf wsX8_orderOf) := goodIn_app (goodIn_of _ (by decide +kernel)) ggX8_throughNow_X8_orderOf
set_option maxRecDepth 20000 in
theorem ggX8_throughNow_X8_go : GoodIn wsX8_throughNow wsX8_go := goodIn_r _ [21, 22, 23, 4, 11, 5, 24, 25, 17, 12, 13, 14, 9, 15, 16, 26, 27, 28, 29, 30, 31, 32, 33, 34, 35, 36, 37, 38, 39, 40, 41, 42, 43, 44, 45, 46, 47, 48, 49, 50, 51, 52, 53, 54, 55, 56, 57, 58, 59] rfl (by decide +kernel)
set_option maxRecDepth 20000 in
theorem gX8_throughNow_X8_go : GoodIn wsX8_throughNow (wsV RX8 93 RX8 yX8_go wsX8_go) := goodIn_app (goodIn_of _ (by decide +kernel)) ggX8_throughNow_X8_go
theorem dX8_throughNow_0 : decode cX8_throughNow 0 = .ok (.aload_n 0, 1) := by decide +kernel
theorem dX8_throughNow_1 : decode cX8_throughNow 1 = .ok (.iload_n 1, 1) := by decide +kernel
theorem dX8_throughNow_2 : decode cX8_throughNow 2 = .ok (.invokevirtual 109, 3) := by decide +kernel
theorem dX8_throughNow_5 : decode cX8_throughNow 5 = .ok (.iconst (-1), 1) := by decide +kernel
theorem dX8_throughNow_6 : decode cX8_throughNow 6 = .ok (.if_icmp .ne 5, 3) := by decide +kernel
theorem dX8_throughNow_9 : decode cX8_throughNow 9 = .ok (.iconst 0, 1) := by decide +kernel
theorem dX8_throughNow_10 : decode cX8_throughNow 10 = .ok (.ireturn, 1) := by decide +kernel
theorem dX8_throughNow_11 : decode cX8_throughNow 11 = .ok (.iconst 0, 1) := by decide +kernel
theorem dX8_throughNow_12 : decode cX8_throughNow 12 = .ok (.istore_n 2, 1) := by decide +kernel
theorem dX8_throughNow_13 : decode cX8_throughNow 13 = .ok (.bipush (-10), 2) := by decide +kernel
theorem dX8_throughNow_15 : decode cX8_throughNow 15 = .ok (.istore_n 3, 1) := by decide +kernel
theorem dX8_throughNow_16 : decode cX8_throughNow 16 = .ok (.iload_n 3, 1) := by decide +kernel
theorem dX8_throughNow_17 : decode cX8_throughNow 17 = .ok (.bipush 10, 2) := by decide +kernel
theorem dX8_throughNow_19 : decode cX8_throughNow 19 = .ok (.if_icmp .gt 64, 3) := by decide +kernel
theorem dX8_throughNow_22 : decode cX8_throughNow 22 = .ok (.aload_n 0, 1) := by decide +kernel
theorem dX8_throughNow_23 : decode cX8_throughNow 23 = .ok (.aload_n 0, 1) := by decide +kernel
theorem dX8_throughNow_24 : decode cX8_throughNow 24 = .ok (.getfield 26, 3) := by decide +kernel
theorem dX8_throughNow_27 : decode cX8_throughNow 27 = .ok (.i2d, 1) := by decide +kernel
theorem dX8_throughNow_28 : decode cX8_throughNow 28 = .ok (.ldc2_w 89, 3) := by decide +kernel
