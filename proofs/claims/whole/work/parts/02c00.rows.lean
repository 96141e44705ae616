theorem dX0_init_0 : decode cX0_init 0 = .ok (.aload_n 0, 1) := by decide +kernel
theorem dX0_init_1 : decode cX0_init 1 = .ok (.invokespecial 3, 3) := by decide +kernel
theorem dX0_init_4 : decode cX0_init 4 = .ok (.return_, 1) := by decide +kernel
theorem dX0_clear_0 : decode cX0_clear 0 = .ok (.aload_n 0, 1) := by decide +kernel
theorem dX0_clear_1 : decode cX0_clear 1 = .ok (.iconst (-1), 1) := by decide +kernel
theorem dX0_clear_2 : decode cX0_clear 2 = .ok (.putfield 9, 3) := by decide +kernel
theorem dX0_clear_5 : decode cX0_clear 5 = .ok (.aload_n 0, 1) := by decide +kernel
theorem dX0_clear_6 : decode cX0_clear 6 = .ok (.dconst 0, 1) := by decide +kernel
theorem dX0_clear_7 : decode cX0_clear 7 = .ok (.putfield 15, 3) := by decide +kernel
theorem dX0_clear_10 : decode cX0_clear 10 = .ok (.return_, 1) := by decide +kernel
set_option maxRecDepth 20000 in
theorem ggX0_offer_X1_spread : GoodIn wsX0_offer wsX1_spread := goodIn_r _ [8, 9, 10, 11, 12, 13, 14, 15, 16] rfl (by decide +kernel)
set_option maxRecDepth 20000 in
theorem gX0_offer_X1_spread : GoodIn wsX0_offer (wsV RX0 24 RX1 yX1_spread wsX1_spread) := goodIn_app (goodIn_of _ (by decide +kernel)) ggX0_offer_X1_spread
theorem dX0_offer_0 : decode cX0_offer 0 = .ok (.aload_n 2, 1) := by decide +kernel
theorem dX0_offer_1 : decode cX0_offer 1 = .ok (.getfield 19, 3) := by decide +kernel
theorem dX0_offer_4 : decode cX0_offer 4 = .ok (.ifCond .ne 4, 3) := by decide +kernel
theorem dX0_offer_7 : decode cX0_offer 7 = .ok (.return_, 1) := by decide +kernel
theorem dX0_offer_8 : decode cX0_offer 8 = .ok (.aload_n 2, 1) := by decide +kernel
theorem dX0_offer_9 : decode cX0_offer 9 = .ok (.invokevirtual 24, 3) := by decide +kernel
theorem dX0_offer_12 : decode cX0_offer 12 = .ok (.dstore_n 3, 1) := by decide +kernel
theorem dX0_offer_13 : decode cX0_offer 13 = .ok (.aload_n 0, 1) := by decide +kernel
theorem dX0_offer_14 : decode cX0_offer 14 = .ok (.getfield 9, 3) := by decide +kernel
theorem dX0_offer_17 : decode cX0_offer 17 = .ok (.iconst (-1), 1) := by decide +kernel
theorem dX0_offer_18 : decode cX0_offer 18 = .ok (.if_icmp .eq 12, 3) := by decide +kernel
theorem dX0_offer_21 : decode cX0_offer 21 = .ok (.dload_n 3, 1) := by decide +kernel
theorem dX0_offer_22 : decode cX0_offer 22 = .ok (.aload_n 0, 1) := by decide +kernel
theorem dX0_offer_23 : decode cX0_offer 23 = .ok (.getfield 15, 3) := by decide +kernel
theorem dX0_offer_26 : decode cX0_offer 26 = .ok (.dcmp .g, 1) := by decide +kernel
theorem dX0_offer_27 : decode cX0_offer 27 = .ok (.ifCond .ge 13, 3) := by decide +kernel
theorem dX0_offer_30 : decode cX0_offer 30 = .ok (.aload_n 0, 1) := by decide +kernel
theorem dX0_offer_31 : decode cX0_offer 31 = .ok (.iload_n 1, 1) := by decide +kernel
theorem dX0_offer_32 : decode cX0_offer 32 = .ok (.putfield 9, 3) := by decide +kernel
theorem dX0_offer_35 : decode cX0_offer 35 = .ok (.aload_n 0, 1) := by decide +kernel
theorem dX0_offer_36 : decode cX0_offer 36 = .ok (.dload_n 3, 1) := by decide +kernel
theorem dX0_offer_37 : decode cX0_offer 37 = .ok (.putfield 15, 3) := by decide +kernel
theorem dX0_offer_40 : decode cX0_offer 40 = .ok (.return_, 1) := by decide +kernel
set_option maxRecDepth 20000 in
theorem ggX1_init_X3_init : GoodIn wsX1_init wsX3_init := goodIn_r _ [11, 12, 2, 3] rfl (by decide +kernel)
set_option maxRecDepth 20000 in
theorem gX1_init_X3_init_n11 : GoodIn wsX1_init (wsX3_init) := ggX1_init_X3_init
theorem dX1_init_0 : decode cX1_init 0 = .ok (.aload_n 0, 1) := by decide +kernel
theorem dX1_init_1 : decode cX1_init 1 = .ok (.invokespecial 3, 3) := by decide +kernel
theorem dX1_init_4 : decode cX1_init 4 = .ok (.aload_n 0, 1) := by decide +kernel
theorem dX1_init_5 : decode cX1_init 5 = .ok (.new 9, 3) := by decide +kernel
theorem dX1_init_8 : decode cX1_init 8 = .ok (.dup, 1) := by decide +kernel
theorem dX1_init_9 : decode cX1_init 9 = .ok (.invokespecial 11, 3) := by decide +kernel
theorem dX1_init_12 : decode cX1_init 12 = .ok (.putfield 12, 3) := by decide +kernel
theorem dX1_init_15 : decode cX1_init 15 = .ok (.aload_n 0, 1) := by decide +kernel
theorem dX1_init_16 : decode cX1_init 16 = .ok (.bipush 8, 2) := by decide +kernel
theorem dX1_init_18 : decode cX1_init 18 = .ok (.newarray .int, 2) := by decide +kernel
theorem dX1_init_20 : decode cX1_init 20 = .ok (.putfield 18, 3) := by decide +kernel
theorem dX1_init_23 : decode cX1_init 23 = .ok (.return_, 1) := by decide +kernel
set_option maxRecDepth 20000 in
theorem ggX1_send_X3_run : GoodIn wsX1_send wsX3_run := goodIn_r _ [11, 12, 13, 14, 15, 16, 17, 18, 19, 20, 21, 22, 23, 36, 37, 38, 39, 40, 41, 42, 43, 44, 45] rfl (by decide +kernel)
set_option maxRecDepth 20000 in
theorem gX1_send_X3_run : GoodIn wsX1_send (wsV RX1 28 RX3 yX3_run wsX3_run) := goodIn_app (goodIn_of _ (by decide +kernel)) ggX1_send_X3_run
set_option maxRecDepth 20000 in
theorem ggX1_send_X1_arrive : GoodIn wsX1_send wsX1_arrive := goodIn_r _ [28, 1, 29, 30, 31, 32, 33, 34, 35] rfl (by decide +kernel)
set_option maxRecDepth 20000 in
theorem gX1_send_X1_arrive : GoodIn wsX1_send (wsV RX1 39 RX1 yX1_arrive wsX1_arrive) := goodIn_app (goodIn_of _ (by decide +kernel)) ggX1_send_X1_arrive
theorem dX1_send_0 : decode cX1_send 0 = .ok (.aload_n 0, 1) := by decide +kernel
theorem dX1_send_1 : decode cX1_send 1 = .ok (.iconst 0, 1) := by decide +kernel
theorem dX1_send_2 : decode cX1_send 2 = .ok (.putfield 22, 3) := by decide +kernel
theorem dX1_send_5 : decode cX1_send 5 = .ok (.iconst 0, 1) := by decide +kernel
theorem dX1_send_6 : decode cX1_send 6 = .ok (.istore 4, 2) := by decide +kernel
theorem dX1_send_8 : decode cX1_send 8 = .ok (.iload 4, 2) := by decide +kernel
theorem dX1_send_10 : decode cX1_send 10 = .ok (.bipush 8, 2) := by decide +kernel
theorem dX1_send_12 : decode cX1_send 12 = .ok (.if_icmp .ge 17, 3) := by decide +kernel
theorem dX1_send_15 : decode cX1_send 15 = .ok (.aload_n 0, 1) := by decide +kernel
theorem dX1_send_16 : decode cX1_send 16 = .ok (.getfield 18, 3) := by decide +kernel
theorem dX1_send_19 : decode cX1_send 19 = .ok (.iload 4, 2) := by decide +kernel
theorem dX1_send_21 : decode cX1_send 21 = .ok (.iconst 0, 1) := by decide +kernel
theorem dX1_send_22 : decode cX1_send 22 = .ok (.iastore, 1) := by decide +kernel
theorem dX1_send_23 : decode cX1_send 23 = .ok (.iinc 4 1, 3) := by decide +kernel
theorem dX1_send_26 : decode cX1_send 26 = .ok (.goto (-18), 3) := by decide +kernel
theorem dX1_send_29 : decode cX1_send 29 = .ok (.bipush (-10), 2) := by decide +kernel
theorem dX1_send_31 : decode cX1_send 31 = .ok (.istore 4, 2) := by decide +kernel
theorem dX1_send_33 : decode cX1_send 33 = .ok (.iload 4, 2) := by decide +kernel
theorem dX1_send_35 : decode cX1_send 35 = .ok (.bipush 10, 2) := by decide +kernel
theorem dX1_send_37 : decode cX1_send 37 = .ok (.if_icmp .gt 77, 3) := by decide +kernel
theorem dX1_send_40 : decode cX1_send 40 = .ok (.aload_n 0, 1) := by decide +kernel
theorem dX1_send_41 : decode cX1_send 41 = .ok (.getfield 12, 3) := by decide +kernel
theorem dX1_send_44 : decode cX1_send 44 = .ok (.aload_n 1, 1) := by decide +kernel
theorem dX1_send_45 : decode cX1_send 45 = .ok (.dload_n 2, 1) := by decide +kernel
theorem dX1_send_46 : decode cX1_send 46 = .ok (.iload 4, 2) := by decide +kernel
theorem dX1_send_48 : decode cX1_send 48 = .ok (.i2d, 1) := by decide +kernel
theorem dX1_send_49 : decode cX1_send 49 = .ok (.ldc2_w 26, 3) := by decide +kernel
theorem dX1_send_52 : decode cX1_send 52 = .ok (.ddiv, 1) := by decide +kernel
theorem dX1_send_53 : decode cX1_send 53 = .ok (.invokevirtual 28, 3) := by decide +kernel
theorem dX1_send_56 : decode cX1_send 56 = .ok (.aload_n 0, 1) := by decide +kernel
theorem dX1_send_57 : decode cX1_send 57 = .ok (.getfield 12, 3) := by decide +kernel
theorem dX1_send_60 : decode cX1_send 60 = .ok (.getfield 32, 3) := by decide +kernel
theorem dX1_send_63 : decode cX1_send 63 = .ok (.ifCond .lt 34, 3) := by decide +kernel
theorem dX1_send_66 : decode cX1_send 66 = .ok (.aload_n 0, 1) := by decide +kernel
theorem dX1_send_67 : decode cX1_send 67 = .ok (.getfield 12, 3) := by decide +kernel
theorem dX1_send_70 : decode cX1_send 70 = .ok (.getfield 32, 3) := by decide +kernel
theorem dX1_send_73 : decode cX1_send 73 = .ok (.bipush 8, 2) := by decide +kernel
theorem dX1_send_75 : decode cX1_send 75 = .ok (.if_icmp .ge 22, 3) := by decide +kernel
theorem dX1_send_78 : decode cX1_send 78 = .ok (.aload_n 0, 1) := by decide +kernel
theorem dX1_send_79 : decode cX1_send 79 = .ok (.getfield 18, 3) := by decide +kernel
theorem dX1_send_82 : decode cX1_send 82 = .ok (.aload_n 0, 1) := by decide +kernel
theorem dX1_send_83 : decode cX1_send 83 = .ok (.getfield 12, 3) := by decide +kernel
theorem dX1_send_86 : decode cX1_send 86 = .ok (.getfield 32, 3) := by decide +kernel
theorem dX1_send_89 : decode cX1_send 89 = .ok (.dup2, 1) := by decide +kernel
theorem dX1_send_90 : decode cX1_send 90 = .ok (.iaload, 1) := by decide +kernel
theorem dX1_send_91 : decode cX1_send 91 = .ok (.iconst 1, 1) := by decide +kernel
theorem dX1_send_92 : decode cX1_send 92 = .ok (.iadd, 1) := by decide +kernel
theorem dX1_send_93 : decode cX1_send 93 = .ok (.iastore, 1) := by decide +kernel
theorem dX1_send_94 : decode cX1_send 94 = .ok (.goto 14, 3) := by decide +kernel
theorem dX1_send_97 : decode cX1_send 97 = .ok (.aload_n 0, 1) := by decide +kernel
theorem dX1_send_98 : decode cX1_send 98 = .ok (.aload_n 0, 1) := by decide +kernel
theorem dX1_send_99 : decode cX1_send 99 = .ok (.getfield 12, 3) := by decide +kernel
theorem dX1_send_102 : decode cX1_send 102 = .ok (.getfield 35, 3) := by decide +kernel
theorem dX1_send_105 : decode cX1_send 105 = .ok (.invokevirtual 39, 3) := by decide +kernel
theorem dX1_send_108 : decode cX1_send 108 = .ok (.iinc 4 1, 3) := by decide +kernel
theorem dX1_send_111 : decode cX1_send 111 = .ok (.goto (-78), 3) := by decide +kernel
theorem dX1_send_114 : decode cX1_send 114 = .ok (.return_, 1) := by decide +kernel
theorem dX1_arrive_0 : decode cX1_arrive 0 = .ok (.aload_n 0, 1) := by decide +kernel
theorem dX1_arrive_1 : decode cX1_arrive 1 = .ok (.getfield 22, 3) := by decide +kernel
theorem dX1_arrive_4 : decode cX1_arrive 4 = .ok (.ifCond .eq 12, 3) := by decide +kernel
theorem dX1_arrive_7 : decode cX1_arrive 7 = .ok (.dload_n 1, 1) := by decide +kernel
theorem dX1_arrive_8 : decode cX1_arrive 8 = .ok (.aload_n 0, 1) := by decide +kernel
theorem dX1_arrive_9 : decode cX1_arrive 9 = .ok (.getfield 43, 3) := by decide +kernel
theorem dX1_arrive_12 : decode cX1_arrive 12 = .ok (.dcmp .g, 1) := by decide +kernel
theorem dX1_arrive_13 : decode cX1_arrive 13 = .ok (.ifCond .ge 8, 3) := by decide +kernel
theorem dX1_arrive_16 : decode cX1_arrive 16 = .ok (.aload_n 0, 1) := by decide +kernel
theorem dX1_arrive_17 : decode cX1_arrive 17 = .ok (.dload_n 1, 1) := by decide +kernel
theorem dX1_arrive_18 : decode cX1_arrive 18 = .ok (.putfield 43, 3) := by decide +kernel
theorem dX1_arrive_21 : decode cX1_arrive 21 = .ok (.aload_n 0, 1) := by decide +kernel
theorem dX1_arrive_22 : decode cX1_arrive 22 = .ok (.getfield 22, 3) := by decide +kernel
theorem dX1_arrive_25 : decode cX1_arrive 25 = .ok (.ifCond .eq 12, 3) := by decide +kernel
theorem dX1_arrive_28 : decode cX1_arrive 28 = .ok (.dload_n 1, 1) := by decide +kernel
theorem dX1_arrive_29 : decode cX1_arrive 29 = .ok (.aload_n 0, 1) := by decide +kernel
theorem dX1_arrive_30 : decode cX1_arrive 30 = .ok (.getfield 46, 3) := by decide +kernel
theorem dX1_arrive_33 : decode cX1_arrive 33 = .ok (.dcmp .l, 1) := by decide +kernel
theorem dX1_arrive_34 : decode cX1_arrive 34 = .ok (.ifCond .le 8, 3) := by decide +kernel
theorem dX1_arrive_37 : decode cX1_arrive 37 = .ok (.aload_n 0, 1) := by decide +kernel
theorem dX1_arrive_38 : decode cX1_arrive 38 = .ok (.dload_n 1, 1) := by decide +kernel
theorem dX1_arrive_39 : decode cX1_arrive 39 = .ok (.putfield 46, 3) := by decide +kernel
theorem dX1_arrive_42 : decode cX1_arrive 42 = .ok (.aload_n 0, 1) := by decide +kernel
theorem dX1_arrive_43 : decode cX1_arrive 43 = .ok (.dup, 1) := by decide +kernel
theorem dX1_arrive_44 : decode cX1_arrive 44 = .ok (.getfield 22, 3) := by decide +kernel
theorem dX1_arrive_47 : decode cX1_arrive 47 = .ok (.iconst 1, 1) := by decide +kernel
theorem dX1_arrive_48 : decode cX1_arrive 48 = .ok (.iadd, 1) := by decide +kernel
theorem dX1_arrive_49 : decode cX1_arrive 49 = .ok (.putfield 22, 3) := by decide +kernel
theorem dX1_arrive_52 : decode cX1_arrive 52 = .ok (.return_, 1) := by decide +kernel
theorem dX1_passed_0 : decode cX1_passed 0 = .ok (.bipush 21, 2) := by decide +kernel
theorem dX1_passed_2 : decode cX1_passed 2 = .ok (.istore_n 2, 1) := by decide +kernel
theorem dX1_passed_3 : decode cX1_passed 3 = .ok (.iconst 0, 1) := by decide +kernel
theorem dX1_passed_4 : decode cX1_passed 4 = .ok (.istore_n 3, 1) := by decide +kernel
theorem dX1_passed_5 : decode cX1_passed 5 = .ok (.iload_n 3, 1) := by decide +kernel
theorem dX1_passed_6 : decode cX1_passed 6 = .ok (.iload_n 1, 1) := by decide +kernel
theorem dX1_passed_7 : decode cX1_passed 7 = .ok (.if_icmp .gt 24, 3) := by decide +kernel
theorem dX1_passed_10 : decode cX1_passed 10 = .ok (.iload_n 3, 1) := by decide +kernel
theorem dX1_passed_11 : decode cX1_passed 11 = .ok (.bipush 8, 2) := by decide +kernel
theorem dX1_passed_13 : decode cX1_passed 13 = .ok (.if_icmp .ge 18, 3) := by decide +kernel
theorem dX1_passed_16 : decode cX1_passed 16 = .ok (.iload_n 2, 1) := by decide +kernel
theorem dX1_passed_17 : decode cX1_passed 17 = .ok (.aload_n 0, 1) := by decide +kernel
theorem dX1_passed_18 : decode cX1_passed 18 = .ok (.getfield 18, 3) := by decide +kernel
theorem dX1_passed_21 : decode cX1_passed 21 = .ok (.iload_n 3, 1) := by decide +kernel
theorem dX1_passed_22 : decode cX1_passed 22 = .ok (.iaload, 1) := by decide +kernel
theorem dX1_passed_23 : decode cX1_passed 23 = .ok (.isub, 1) := by decide +kernel
theorem dX1_passed_24 : decode cX1_passed 24 = .ok (.istore_n 2, 1) := by decide +kernel
theorem dX1_passed_25 : decode cX1_passed 25 = .ok (.iinc 3 1, 3) := by decide +kernel
theorem dX1_passed_28 : decode cX1_passed 28 = .ok (.goto (-23), 3) := by decide +kernel
theorem dX1_passed_31 : decode cX1_passed 31 = .ok (.iload_n 2, 1) := by decide +kernel
theorem dX1_passed_32 : decode cX1_passed 32 = .ok (.ireturn, 1) := by decide +kernel
theorem dX1_spread_0 : decode cX1_spread 0 = .ok (.aload_n 0, 1) := by decide +kernel
theorem dX1_spread_1 : decode cX1_spread 1 = .ok (.getfield 22, 3) := by decide +kernel
theorem dX1_spread_4 : decode cX1_spread 4 = .ok (.ifCond .ne 7, 3) := by decide +kernel
theorem dX1_spread_7 : decode cX1_spread 7 = .ok (.dconst 0, 1) := by decide +kernel
theorem dX1_spread_8 : decode cX1_spread 8 = .ok (.goto 12, 3) := by decide +kernel
theorem dX1_spread_11 : decode cX1_spread 11 = .ok (.aload_n 0, 1) := by decide +kernel
theorem dX1_spread_12 : decode cX1_spread 12 = .ok (.getfield 46, 3) := by decide +kernel
theorem dX1_spread_15 : decode cX1_spread 15 = .ok (.aload_n 0, 1) := by decide +kernel
theorem dX1_spread_16 : decode cX1_spread 16 = .ok (.getfield 43, 3) := by decide +kernel
theorem dX1_spread_19 : decode cX1_spread 19 = .ok (.dsub, 1) := by decide +kernel
theorem dX1_spread_20 : decode cX1_spread 20 = .ok (.dreturn, 1) := by decide +kernel
theorem dX2_init_0 : decode cX2_init 0 = .ok (.aload_n 0, 1) := by decide +kernel
theorem dX2_init_1 : decode cX2_init 1 = .ok (.invokespecial 3, 3) := by decide +kernel
theorem dX2_init_4 : decode cX2_init 4 = .ok (.return_, 1) := by decide +kernel
set_option maxRecDepth 20000 in
theorem ggX2_seek_X4_clear : GoodIn wsX2_seek wsX4_clear := goodIn_r _ [13, 14, 15, 16, 17, 44, 45, 46, 47] rfl (by decide +kernel)
set_option maxRecDepth 20000 in
theorem gX2_seek_X4_clear : GoodIn wsX2_seek (wsV RX2 19 RX4 yX4_clear wsX4_clear) := goodIn_app (goodIn_of _ (by decide +kernel)) ggX2_seek_X4_clear
set_option maxRecDepth 20000 in
theorem ggX2_seek_X4_goOn : GoodIn wsX2_seek wsX4_goOn := goodIn_r _ [21, 14, 16, 15, 17, 44, 45, 46, 47] rfl (by decide +kernel)
set_option maxRecDepth 20000 in
theorem gX2_seek_X4_goOn : GoodIn wsX2_seek (wsV RX2 36 RX4 yX4_goOn wsX4_goOn) := goodIn_app (goodIn_of _ (by decide +kernel)) ggX2_seek_X4_goOn
set_option maxRecDepth 20000 in
theorem ggX2_seek_X6_unsigned : GoodIn wsX2_seek wsX6_unsigned := goodIn_r _ [24] rfl (by decide +kernel)
set_option maxRecDepth 20000 in
theorem gX2_seek_X6_unsigned_n46 : GoodIn wsX2_seek (wsX6_unsigned) := ggX2_seek_X6_unsigned
set_option maxRecDepth 20000 in
theorem ggX2_seek_X2_weigh : GoodIn wsX2_seek wsX2_weigh := goodIn_r _ [29, 30, 1, 2, 35, 36] rfl (by decide +kernel)
set_option maxRecDepth 20000 in
theorem gX2_seek_X2_weigh : GoodIn wsX2_seek (wsV RX2 50 RX2 yX2_weigh wsX2_weigh) := goodIn_app (goodIn_of _ (by decide +kernel)) ggX2_seek_X2_weigh
set_option maxRecDepth 20000 in
theorem ggX2_seek_X4_bend : GoodIn wsX2_seek wsX4_bend := goodIn_r _ [34, 16, 14, 17, 15, 44, 45, 46, 47] rfl (by decide +kernel)
set_option maxRecDepth 20000 in
theorem gX2_seek_X4_bend : GoodIn wsX2_seek (wsV RX2 58 RX4 yX4_bend wsX4_bend) := goodIn_app (goodIn_of _ (by decide +kernel)) ggX2_seek_X4_bend
theorem dX2_seek_0 : decode cX2_seek 0 = .ok (.aload_n 0, 1) := by decide +kernel
theorem dX2_seek_1 : decode cX2_seek 1 = .ok (.iconst (-1), 1) := by decide +kernel
theorem dX2_seek_2 : decode cX2_seek 2 = .ok (.putfield 9, 3) := by decide +kernel
theorem dX2_seek_5 : decode cX2_seek 5 = .ok (.aload_n 0, 1) := by decide +kernel
theorem dX2_seek_6 : decode cX2_seek 6 = .ok (.dconst 0, 1) := by decide +kernel
theorem dX2_seek_7 : decode cX2_seek 7 = .ok (.putfield 15, 3) := by decide +kernel
theorem dX2_seek_10 : decode cX2_seek 10 = .ok (.aload_n 2, 1) := by decide +kernel
theorem dX2_seek_11 : decode cX2_seek 11 = .ok (.invokevirtual 19, 3) := by decide +kernel
theorem dX2_seek_14 : decode cX2_seek 14 = .ok (.aload_n 1, 1) := by decide +kernel
theorem dX2_seek_15 : decode cX2_seek 15 = .ok (.getfield 24, 3) := by decide +kernel
theorem dX2_seek_18 : decode cX2_seek 18 = .ok (.istore_n 3, 1) := by decide +kernel
theorem dX2_seek_19 : decode cX2_seek 19 = .ok (.iconst 0, 1) := by decide +kernel
theorem dX2_seek_20 : decode cX2_seek 20 = .ok (.istore 4, 2) := by decide +kernel
theorem dX2_seek_22 : decode cX2_seek 22 = .ok (.iload 4, 2) := by decide +kernel
theorem dX2_seek_24 : decode cX2_seek 24 = .ok (.aload_n 1, 1) := by decide +kernel
theorem dX2_seek_25 : decode cX2_seek 25 = .ok (.getfield 29, 3) := by decide +kernel
theorem dX2_seek_28 : decode cX2_seek 28 = .ok (.if_icmp .ge 61, 3) := by decide +kernel
theorem dX2_seek_31 : decode cX2_seek 31 = .ok (.aload_n 2, 1) := by decide +kernel
theorem dX2_seek_32 : decode cX2_seek 32 = .ok (.aload_n 1, 1) := by decide +kernel
theorem dX2_seek_33 : decode cX2_seek 33 = .ok (.getfield 32, 3) := by decide +kernel
theorem dX2_seek_36 : decode cX2_seek 36 = .ok (.iload 4, 2) := by decide +kernel
theorem dX2_seek_38 : decode cX2_seek 38 = .ok (.iaload, 1) := by decide +kernel
theorem dX2_seek_39 : decode cX2_seek 39 = .ok (.iload_n 3, 1) := by decide +kernel
theorem dX2_seek_40 : decode cX2_seek 40 = .ok (.isub, 1) := by decide +kernel
theorem dX2_seek_41 : decode cX2_seek 41 = .ok (.invokevirtual 36, 3) := by decide +kernel
theorem dX2_seek_44 : decode cX2_seek 44 = .ok (.aload_n 1, 1) := by decide +kernel
theorem dX2_seek_45 : decode cX2_seek 45 = .ok (.getfield 32, 3) := by decide +kernel
theorem dX2_seek_48 : decode cX2_seek 48 = .ok (.iload 4, 2) := by decide +kernel
theorem dX2_seek_50 : decode cX2_seek 50 = .ok (.iaload, 1) := by decide +kernel
theorem dX2_seek_51 : decode cX2_seek 51 = .ok (.istore_n 3, 1) := by decide +kernel
theorem dX2_seek_52 : decode cX2_seek 52 = .ok (.aload_n 0, 1) := by decide +kernel
theorem dX2_seek_53 : decode cX2_seek 53 = .ok (.iload 4, 2) := by decide +kernel
theorem dX2_seek_55 : decode cX2_seek 55 = .ok (.aload_n 1, 1) := by decide +kernel
theorem dX2_seek_56 : decode cX2_seek 56 = .ok (.getfield 40, 3) := by decide +kernel
theorem dX2_seek_59 : decode cX2_seek 59 = .ok (.iload 4, 2) := by decide +kernel
theorem dX2_seek_61 : decode cX2_seek 61 = .ok (.iaload, 1) := by decide +kernel
theorem dX2_seek_62 : decode cX2_seek 62 = .ok (.aload_n 2, 1) := by decide +kernel
theorem dX2_seek_63 : decode cX2_seek 63 = .ok (.getfield 43, 3) := by decide +kernel
theorem dX2_seek_66 : decode cX2_seek 66 = .ok (.invokestatic 46, 3) := by decide +kernel
theorem dX2_seek_69 : decode cX2_seek 69 = .ok (.invokevirtual 50, 3) := by decide +kernel
theorem dX2_seek_72 : decode cX2_seek 72 = .ok (.aload_n 2, 1) := by decide +kernel
theorem dX2_seek_73 : decode cX2_seek 73 = .ok (.aload_n 1, 1) := by decide +kernel
theorem dX2_seek_74 : decode cX2_seek 74 = .ok (.getfield 54, 3) := by decide +kernel
theorem dX2_seek_77 : decode cX2_seek 77 = .ok (.iload 4, 2) := by decide +kernel
theorem dX2_seek_79 : decode cX2_seek 79 = .ok (.daload, 1) := by decide +kernel
theorem dX2_seek_80 : decode cX2_seek 80 = .ok (.invokevirtual 58, 3) := by decide +kernel
theorem dX2_seek_83 : decode cX2_seek 83 = .ok (.iinc 4 1, 3) := by decide +kernel
theorem dX2_seek_86 : decode cX2_seek 86 = .ok (.goto (-64), 3) := by decide +kernel
theorem dX2_seek_89 : decode cX2_seek 89 = .ok (.return_, 1) := by decide +kernel
theorem dX2_weigh_0 : decode cX2_weigh 0 = .ok (.dload_n 3, 1) := by decide +kernel
theorem dX2_weigh_1 : decode cX2_weigh 1 = .ok (.ldc2_w 62, 3) := by decide +kernel
theorem dX2_weigh_4 : decode cX2_weigh 4 = .ok (.dcmp .g, 1) := by decide +kernel
theorem dX2_weigh_5 : decode cX2_weigh 5 = .ok (.ifCond .ge 4, 3) := by decide +kernel
theorem dX2_weigh_8 : decode cX2_weigh 8 = .ok (.return_, 1) := by decide +kernel
theorem dX2_weigh_9 : decode cX2_weigh 9 = .ok (.iload_n 2, 1) := by decide +kernel
theorem dX2_weigh_10 : decode cX2_weigh 10 = .ok (.i2d, 1) := by decide +kernel
theorem dX2_weigh_11 : decode cX2_weigh 11 = .ok (.dload_n 3, 1) := by decide +kernel
theorem dX2_weigh_12 : decode cX2_weigh 12 = .ok (.ddiv, 1) := by decide +kernel
theorem dX2_weigh_13 : decode cX2_weigh 13 = .ok (.dstore 5, 2) := by decide +kernel
theorem dX2_weigh_15 : decode cX2_weigh 15 = .ok (.aload_n 0, 1) := by decide +kernel
theorem dX2_weigh_16 : decode cX2_weigh 16 = .ok (.getfield 9, 3) := by decide +kernel
theorem dX2_weigh_19 : decode cX2_weigh 19 = .ok (.iconst (-1), 1) := by decide +kernel
theorem dX2_weigh_20 : decode cX2_weigh 20 = .ok (.if_icmp .eq 13, 3) := by decide +kernel
theorem dX2_weigh_23 : decode cX2_weigh 23 = .ok (.dload 5, 2) := by decide +kernel
theorem dX2_weigh_25 : decode cX2_weigh 25 = .ok (.aload_n 0, 1) := by decide +kernel
theorem dX2_weigh_26 : decode cX2_weigh 26 = .ok (.getfield 15, 3) := by decide +kernel
theorem dX2_weigh_29 : decode cX2_weigh 29 = .ok (.dcmp .g, 1) := by decide +kernel
theorem dX2_weigh_30 : decode cX2_weigh 30 = .ok (.ifCond .ge 14, 3) := by decide +kernel
theorem dX2_weigh_33 : decode cX2_weigh 33 = .ok (.aload_n 0, 1) := by decide +kernel
theorem dX2_weigh_34 : decode cX2_weigh 34 = .ok (.iload_n 1, 1) := by decide +kernel
theorem dX2_weigh_35 : decode cX2_weigh 35 = .ok (.putfield 9, 3) := by decide +kernel
theorem dX2_weigh_38 : decode cX2_weigh 38 = .ok (.aload_n 0, 1) := by decide +kernel
theorem dX2_weigh_39 : decode cX2_weigh 39 = .ok (.dload 5, 2) := by decide +kernel
theorem dX2_weigh_41 : decode cX2_weigh 41 = .ok (.putfield 15, 3) := by decide +kernel
theorem dX2_weigh_44 : decode cX2_weigh 44 = .ok (.return_, 1) := by decide +kernel
theorem dX3_init_0 : decode cX3_init 0 = .ok (.aload_n 0, 1) := by decide +kernel
theorem dX3_init_1 : decode cX3_init 1 = .ok (.invokespecial 3, 3) := by decide +kernel
theorem dX3_init_4 : decode cX3_init 4 = .ok (.return_, 1) := by decide +kernel
set_option maxRecDepth 20000 in
theorem ggX3_run_X6_unsigned : GoodIn wsX3_run wsX6_unsigned := goodIn_r _ [12] rfl (by decide +kernel)
set_option maxRecDepth 20000 in
theorem gX3_run_X6_unsigned_n34 : GoodIn wsX3_run (wsX6_unsigned) := ggX3_run_X6_unsigned
theorem dX3_run_0 : decode cX3_run 0 = .ok (.aload_n 0, 1) := by decide +kernel
theorem dX3_run_1 : decode cX3_run 1 = .ok (.dload_n 2, 1) := by decide +kernel
theorem dX3_run_2 : decode cX3_run 2 = .ok (.putfield 9, 3) := by decide +kernel
theorem dX3_run_5 : decode cX3_run 5 = .ok (.aload_n 0, 1) := by decide +kernel
theorem dX3_run_6 : decode cX3_run 6 = .ok (.dload 4, 2) := by decide +kernel
theorem dX3_run_8 : decode cX3_run 8 = .ok (.putfield 15, 3) := by decide +kernel
theorem dX3_run_11 : decode cX3_run 11 = .ok (.aload_n 0, 1) := by decide +kernel
theorem dX3_run_12 : decode cX3_run 12 = .ok (.iconst (-1), 1) := by decide +kernel
theorem dX3_run_13 : decode cX3_run 13 = .ok (.putfield 18, 3) := by decide +kernel
theorem dX3_run_16 : decode cX3_run 16 = .ok (.aload_n 1, 1) := by decide +kernel
theorem dX3_run_17 : decode cX3_run 17 = .ok (.getfield 22, 3) := by decide +kernel
theorem dX3_run_20 : decode cX3_run 20 = .ok (.istore 6, 2) := by decide +kernel
theorem dX3_run_22 : decode cX3_run 22 = .ok (.iconst 0, 1) := by decide +kernel
theorem dX3_run_23 : decode cX3_run 23 = .ok (.istore 7, 2) := by decide +kernel
theorem dX3_run_25 : decode cX3_run 25 = .ok (.iload 7, 2) := by decide +kernel
theorem dX3_run_27 : decode cX3_run 27 = .ok (.aload_n 1, 1) := by decide +kernel
theorem dX3_run_28 : decode cX3_run 28 = .ok (.getfield 27, 3) := by decide +kernel
theorem dX3_run_31 : decode cX3_run 31 = .ok (.if_icmp .ge 90, 3) := by decide +kernel
theorem dX3_run_34 : decode cX3_run 34 = .ok (.aload_n 0, 1) := by decide +kernel
theorem dX3_run_35 : decode cX3_run 35 = .ok (.aload_n 0, 1) := by decide +kernel
theorem dX3_run_36 : decode cX3_run 36 = .ok (.getfield 9, 3) := by decide +kernel
theorem dX3_run_39 : decode cX3_run 39 = .ok (.aload_n 0, 1) := by decide +kernel
theorem dX3_run_40 : decode cX3_run 40 = .ok (.getfield 15, 3) := by decide +kernel
theorem dX3_run_43 : decode cX3_run 43 = .ok (.aload_n 1, 1) := by decide +kernel
theorem dX3_run_44 : decode cX3_run 44 = .ok (.getfield 30, 3) := by decide +kernel
theorem dX3_run_47 : decode cX3_run 47 = .ok (.iload 7, 2) := by decide +kernel
theorem dX3_run_49 : decode cX3_run 49 = .ok (.iaload, 1) := by decide +kernel
theorem dX3_run_50 : decode cX3_run 50 = .ok (.iload 6, 2) := by decide +kernel
theorem dX3_run_52 : decode cX3_run 52 = .ok (.isub, 1) := by decide +kernel
theorem dX3_run_53 : decode cX3_run 53 = .ok (.i2d, 1) := by decide +kernel
theorem dX3_run_54 : decode cX3_run 54 = .ok (.dmul, 1) := by decide +kernel
theorem dX3_run_55 : decode cX3_run 55 = .ok (.dadd, 1) := by decide +kernel
theorem dX3_run_56 : decode cX3_run 56 = .ok (.putfield 9, 3) := by decide +kernel
theorem dX3_run_59 : decode cX3_run 59 = .ok (.aload_n 1, 1) := by decide +kernel
theorem dX3_run_60 : decode cX3_run 60 = .ok (.getfield 30, 3) := by decide +kernel
theorem dX3_run_63 : decode cX3_run 63 = .ok (.iload 7, 2) := by decide +kernel
theorem dX3_run_65 : decode cX3_run 65 = .ok (.iaload, 1) := by decide +kernel
theorem dX3_run_66 : decode cX3_run 66 = .ok (.istore 6, 2) := by decide +kernel
theorem dX3_run_68 : decode cX3_run 68 = .ok (.aload_n 0, 1) := by decide +kernel
theorem dX3_run_69 : decode cX3_run 69 = .ok (.getfield 9, 3) := by decide +kernel
theorem dX3_run_72 : decode cX3_run 72 = .ok (.invokestatic 34, 3) := by decide +kernel
theorem dX3_run_75 : decode cX3_run 75 = .ok (.aload_n 1, 1) := by decide +kernel
theorem dX3_run_76 : decode cX3_run 76 = .ok (.getfield 38, 3) := by decide +kernel
theorem dX3_run_79 : decode cX3_run 79 = .ok (.iload 7, 2) := by decide +kernel
theorem dX3_run_81 : decode cX3_run 81 = .ok (.iaload, 1) := by decide +kernel
theorem dX3_run_82 : decode cX3_run 82 = .ok (.i2d, 1) := by decide +kernel
theorem dX3_run_83 : decode cX3_run 83 = .ok (.dcmp .l, 1) := by decide +kernel
theorem dX3_run_84 : decode cX3_run 84 = .ok (.ifCond .le 10, 3) := by decide +kernel
theorem dX3_run_87 : decode cX3_run 87 = .ok (.aload_n 0, 1) := by decide +kernel
theorem dX3_run_88 : decode cX3_run 88 = .ok (.iload 7, 2) := by decide +kernel
theorem dX3_run_90 : decode cX3_run 90 = .ok (.putfield 18, 3) := by decide +kernel
theorem dX3_run_93 : decode cX3_run 93 = .ok (.return_, 1) := by decide +kernel
theorem dX3_run_94 : decode cX3_run 94 = .ok (.aload_n 0, 1) := by decide +kernel
theorem dX3_run_95 : decode cX3_run 95 = .ok (.aload_n 0, 1) := by decide +kernel
theorem dX3_run_96 : decode cX3_run 96 = .ok (.getfield 15, 3) := by decide +kernel
theorem dX3_run_99 : decode cX3_run 99 = .ok (.aload_n 0, 1) := by decide +kernel
theorem dX3_run_100 : decode cX3_run 100 = .ok (.getfield 9, 3) := by decide +kernel
theorem dX3_run_103 : decode cX3_run 103 = .ok (.aload_n 1, 1) := by decide +kernel
theorem dX3_run_104 : decode cX3_run 104 = .ok (.getfield 41, 3) := by decide +kernel
theorem dX3_run_107 : decode cX3_run 107 = .ok (.iload 7, 2) := by decide +kernel
theorem dX3_run_109 : decode cX3_run 109 = .ok (.daload, 1) := by decide +kernel
theorem dX3_run_110 : decode cX3_run 110 = .ok (.dmul, 1) := by decide +kernel
theorem dX3_run_111 : decode cX3_run 111 = .ok (.dsub, 1) := by decide +kernel
theorem dX3_run_112 : decode cX3_run 112 = .ok (.putfield 15, 3) := by decide +kernel
theorem dX3_run_115 : decode cX3_run 115 = .ok (.iinc 7 1, 3) := by decide +kernel
theorem dX3_run_118 : decode cX3_run 118 = .ok (.goto (-93), 3) := by decide +kernel
theorem dX3_run_121 : decode cX3_run 121 = .ok (.aload_n 0, 1) := by decide +kernel
theorem dX3_run_122 : decode cX3_run 122 = .ok (.aload_n 0, 1) := by decide +kernel
theorem dX3_run_123 : decode cX3_run 123 = .ok (.getfield 9, 3) := by decide +kernel
theorem dX3_run_126 : decode cX3_run 126 = .ok (.aload_n 0, 1) := by decide +kernel
theorem dX3_run_127 : decode cX3_run 127 = .ok (.getfield 15, 3) := by decide +kernel
theorem dX3_run_130 : decode cX3_run 130 = .ok (.aload_n 1, 1) := by decide +kernel
theorem dX3_run_131 : decode cX3_run 131 = .ok (.getfield 45, 3) := by decide +kernel
theorem dX3_run_134 : decode cX3_run 134 = .ok (.iload 6, 2) := by decide +kernel
theorem dX3_run_136 : decode cX3_run 136 = .ok (.isub, 1) := by decide +kernel
theorem dX3_run_137 : decode cX3_run 137 = .ok (.i2d, 1) := by decide +kernel
theorem dX3_run_138 : decode cX3_run 138 = .ok (.dmul, 1) := by decide +kernel
theorem dX3_run_139 : decode cX3_run 139 = .ok (.dadd, 1) := by decide +kernel
theorem dX3_run_140 : decode cX3_run 140 = .ok (.putfield 9, 3) := by decide +kernel
theorem dX3_run_143 : decode cX3_run 143 = .ok (.return_, 1) := by decide +kernel
theorem dX4_init_0 : decode cX4_init 0 = .ok (.aload_n 0, 1) := by decide +kernel
theorem dX4_init_1 : decode cX4_init 1 = .ok (.invokespecial 1, 3) := by decide +kernel
theorem dX4_init_4 : decode cX4_init 4 = .ok (.return_, 1) := by decide +kernel
theorem dX4_clear_0 : decode cX4_clear 0 = .ok (.aload_n 0, 1) := by decide +kernel
theorem dX4_clear_1 : decode cX4_clear 1 = .ok (.dconst 1, 1) := by decide +kernel
theorem dX4_clear_2 : decode cX4_clear 2 = .ok (.putfield 7, 3) := by decide +kernel
theorem dX4_clear_5 : decode cX4_clear 5 = .ok (.aload_n 0, 1) := by decide +kernel
theorem dX4_clear_6 : decode cX4_clear 6 = .ok (.dconst 0, 1) := by decide +kernel
theorem dX4_clear_7 : decode cX4_clear 7 = .ok (.putfield 13, 3) := by decide +kernel
theorem dX4_clear_10 : decode cX4_clear 10 = .ok (.aload_n 0, 1) := by decide +kernel
theorem dX4_clear_11 : decode cX4_clear 11 = .ok (.dconst 0, 1) := by decide +kernel
theorem dX4_clear_12 : decode cX4_clear 12 = .ok (.putfield 16, 3) := by decide +kernel
theorem dX4_clear_15 : decode cX4_clear 15 = .ok (.aload_n 0, 1) := by decide +kernel
theorem dX4_clear_16 : decode cX4_clear 16 = .ok (.dconst 1, 1) := by decide +kernel
theorem dX4_clear_17 : decode cX4_clear 17 = .ok (.putfield 19, 3) := by decide +kernel
theorem dX4_clear_20 : decode cX4_clear 20 = .ok (.return_, 1) := by decide +kernel
set_option maxRecDepth 20000 in
theorem ggX4_lay_X4_clear : GoodIn wsX4_lay wsX4_clear := goodIn_r _ [9, 10, 11, 12, 13, 29, 30, 31, 32] rfl (by decide +kernel)
set_option maxRecDepth 20000 in
theorem gX4_lay_X4_clear : GoodIn wsX4_lay (wsV RX4 22 RX4 yX4_clear wsX4_clear) := goodIn_app (goodIn_of _ (by decide +kernel)) ggX4_lay_X4_clear
set_option maxRecDepth 20000 in
theorem ggX4_lay_X4_goOn : GoodIn wsX4_lay wsX4_goOn := goodIn_r _ [17, 10, 12, 11, 13, 29, 30, 31, 32] rfl (by decide +kernel)
set_option maxRecDepth 20000 in
theorem gX4_lay_X4_goOn : GoodIn wsX4_lay (wsV RX4 38 RX4 yX4_goOn wsX4_goOn) := goodIn_app (goodIn_of _ (by decide +kernel)) ggX4_lay_X4_goOn
set_option maxRecDepth 20000 in
theorem ggX4_lay_X4_bend : GoodIn wsX4_lay wsX4_bend := goodIn_r _ [21, 12, 10, 13, 11, 29, 30, 31, 32] rfl (by decide +kernel)
set_option maxRecDepth 20000 in
theorem gX4_lay_X4_bend : GoodIn wsX4_lay (wsV RX4 46 RX4 yX4_bend wsX4_bend) := goodIn_app (goodIn_of _ (by decide +kernel)) ggX4_lay_X4_bend
theorem dX4_lay_0 : decode cX4_lay 0 = .ok (.aload_n 0, 1) := by decide +kernel
theorem dX4_lay_1 : decode cX4_lay 1 = .ok (.invokevirtual 22, 3) := by decide +kernel
theorem dX4_lay_4 : decode cX4_lay 4 = .ok (.aload_n 1, 1) := by decide +kernel
theorem dX4_lay_5 : decode cX4_lay 5 = .ok (.getfield 25, 3) := by decide +kernel
theorem dX4_lay_8 : decode cX4_lay 8 = .ok (.istore_n 2, 1) := by decide +kernel
theorem dX4_lay_9 : decode cX4_lay 9 = .ok (.iconst 0, 1) := by decide +kernel
theorem dX4_lay_10 : decode cX4_lay 10 = .ok (.istore_n 3, 1) := by decide +kernel
theorem dX4_lay_11 : decode cX4_lay 11 = .ok (.iload_n 3, 1) := by decide +kernel
theorem dX4_lay_12 : decode cX4_lay 12 = .ok (.aload_n 1, 1) := by decide +kernel
theorem dX4_lay_13 : decode cX4_lay 13 = .ok (.getfield 31, 3) := by decide +kernel
theorem dX4_lay_16 : decode cX4_lay 16 = .ok (.if_icmp .ge 38, 3) := by decide +kernel
theorem dX4_lay_19 : decode cX4_lay 19 = .ok (.aload_n 0, 1) := by decide +kernel
theorem dX4_lay_20 : decode cX4_lay 20 = .ok (.aload_n 1, 1) := by decide +kernel
theorem dX4_lay_21 : decode cX4_lay 21 = .ok (.getfield 34, 3) := by decide +kernel
theorem dX4_lay_24 : decode cX4_lay 24 = .ok (.iload_n 3, 1) := by decide +kernel
theorem dX4_lay_25 : decode cX4_lay 25 = .ok (.iaload, 1) := by decide +kernel
theorem dX4_lay_26 : decode cX4_lay 26 = .ok (.iload_n 2, 1) := by decide +kernel
theorem dX4_lay_27 : decode cX4_lay 27 = .ok (.isub, 1) := by decide +kernel
theorem dX4_lay_28 : decode cX4_lay 28 = .ok (.invokevirtual 38, 3) := by decide +kernel
theorem dX4_lay_31 : decode cX4_lay 31 = .ok (.aload_n 1, 1) := by decide +kernel
theorem dX4_lay_32 : decode cX4_lay 32 = .ok (.getfield 34, 3) := by decide +kernel
theorem dX4_lay_35 : decode cX4_lay 35 = .ok (.iload_n 3, 1) := by decide +kernel
theorem dX4_lay_36 : decode cX4_lay 36 = .ok (.iaload, 1) := by decide +kernel
theorem dX4_lay_37 : decode cX4_lay 37 = .ok (.istore_n 2, 1) := by decide +kernel
theorem dX4_lay_38 : decode cX4_lay 38 = .ok (.aload_n 0, 1) := by decide +kernel
theorem dX4_lay_39 : decode cX4_lay 39 = .ok (.aload_n 1, 1) := by decide +kernel
theorem dX4_lay_40 : decode cX4_lay 40 = .ok (.getfield 42, 3) := by decide +kernel
theorem dX4_lay_43 : decode cX4_lay 43 = .ok (.iload_n 3, 1) := by decide +kernel
theorem dX4_lay_44 : decode cX4_lay 44 = .ok (.daload, 1) := by decide +kernel
theorem dX4_lay_45 : decode cX4_lay 45 = .ok (.invokevirtual 46, 3) := by decide +kernel
theorem dX4_lay_48 : decode cX4_lay 48 = .ok (.iinc 3 1, 3) := by decide +kernel
theorem dX4_lay_51 : decode cX4_lay 51 = .ok (.goto (-40), 3) := by decide +kernel
theorem dX4_lay_54 : decode cX4_lay 54 = .ok (.return_, 1) := by decide +kernel
theorem dX4_goOn_0 : decode cX4_goOn 0 = .ok (.aload_n 0, 1) := by decide +kernel
theorem dX4_goOn_1 : decode cX4_goOn 1 = .ok (.aload_n 0, 1) := by decide +kernel
theorem dX4_goOn_2 : decode cX4_goOn 2 = .ok (.getfield 7, 3) := by decide +kernel
theorem dX4_goOn_5 : decode cX4_goOn 5 = .ok (.aload_n 0, 1) := by decide +kernel
theorem dX4_goOn_6 : decode cX4_goOn 6 = .ok (.getfield 16, 3) := by decide +kernel
theorem dX4_goOn_9 : decode cX4_goOn 9 = .ok (.iload_n 1, 1) := by decide +kernel
theorem dX4_goOn_10 : decode cX4_goOn 10 = .ok (.i2d, 1) := by decide +kernel
theorem dX4_goOn_11 : decode cX4_goOn 11 = .ok (.dmul, 1) := by decide +kernel
theorem dX4_goOn_12 : decode cX4_goOn 12 = .ok (.dadd, 1) := by decide +kernel
theorem dX4_goOn_13 : decode cX4_goOn 13 = .ok (.putfield 7, 3) := by decide +kernel
theorem dX4_goOn_16 : decode cX4_goOn 16 = .ok (.aload_n 0, 1) := by decide +kernel
theorem dX4_goOn_17 : decode cX4_goOn 17 = .ok (.aload_n 0, 1) := by decide +kernel
theorem dX4_goOn_18 : decode cX4_goOn 18 = .ok (.getfield 13, 3) := by decide +kernel
theorem dX4_goOn_21 : decode cX4_goOn 21 = .ok (.aload_n 0, 1) := by decide +kernel
theorem dX4_goOn_22 : decode cX4_goOn 22 = .ok (.getfield 19, 3) := by decide +kernel
theorem dX4_goOn_25 : decode cX4_goOn 25 = .ok (.iload_n 1, 1) := by decide +kernel
theorem dX4_goOn_26 : decode cX4_goOn 26 = .ok (.i2d, 1) := by decide +kernel
theorem dX4_goOn_27 : decode cX4_goOn 27 = .ok (.dmul, 1) := by decide +kernel
theorem dX4_goOn_28 : decode cX4_goOn 28 = .ok (.dadd, 1) := by decide +kernel
theorem dX4_goOn_29 : decode cX4_goOn 29 = .ok (.putfield 13, 3) := by decide +kernel
theorem dX4_goOn_32 : decode cX4_goOn 32 = .ok (.return_, 1) := by decide +kernel
theorem dX4_bend_0 : decode cX4_bend 0 = .ok (.aload_n 0, 1) := by decide +kernel
theorem dX4_bend_1 : decode cX4_bend 1 = .ok (.aload_n 0, 1) := by decide +kernel
theorem dX4_bend_2 : decode cX4_bend 2 = .ok (.getfield 16, 3) := by decide +kernel
theorem dX4_bend_5 : decode cX4_bend 5 = .ok (.aload_n 0, 1) := by decide +kernel
theorem dX4_bend_6 : decode cX4_bend 6 = .ok (.getfield 7, 3) := by decide +kernel
theorem dX4_bend_9 : decode cX4_bend 9 = .ok (.dload_n 1, 1) := by decide +kernel
theorem dX4_bend_10 : decode cX4_bend 10 = .ok (.dmul, 1) := by decide +kernel
theorem dX4_bend_11 : decode cX4_bend 11 = .ok (.dsub, 1) := by decide +kernel
theorem dX4_bend_12 : decode cX4_bend 12 = .ok (.putfield 16, 3) := by decide +kernel
theorem dX4_bend_15 : decode cX4_bend 15 = .ok (.aload_n 0, 1) := by decide +kernel
theorem dX4_bend_16 : decode cX4_bend 16 = .ok (.aload_n 0, 1) := by decide +kernel
theorem dX4_bend_17 : decode cX4_bend 17 = .ok (.getfield 19, 3) := by decide +kernel
theorem dX4_bend_20 : decode cX4_bend 20 = .ok (.aload_n 0, 1) := by decide +kernel
theorem dX4_bend_21 : decode cX4_bend 21 = .ok (.getfield 13, 3) := by decide +kernel
theorem dX4_bend_24 : decode cX4_bend 24 = .ok (.dload_n 1, 1) := by decide +kernel
theorem dX4_bend_25 : decode cX4_bend 25 = .ok (.dmul, 1) := by decide +kernel
theorem dX4_bend_26 : decode cX4_bend 26 = .ok (.dsub, 1) := by decide +kernel
theorem dX4_bend_27 : decode cX4_bend 27 = .ok (.putfield 19, 3) := by decide +kernel
theorem dX4_bend_30 : decode cX4_bend 30 = .ok (.return_, 1) := by decide +kernel
set_option maxRecDepth 20000 in
theorem ggX4_hasImage_X6_isTiny : GoodIn wsX4_hasImage wsX6_isTiny := goodIn_r _ [4, 5, 6, 7, 3, 8] rfl (by decide +kernel)
set_option maxRecDepth 20000 in
theorem gX4_hasImage_X6_isTiny_n50 : GoodIn wsX4_hasImage (wsX6_isTiny) := ggX4_hasImage_X6_isTiny
theorem dX4_hasImage_0 : decode cX4_hasImage 0 = .ok (.aload_n 0, 1) := by decide +kernel
theorem dX4_hasImage_1 : decode cX4_hasImage 1 = .ok (.getfield 19, 3) := by decide +kernel
theorem dX4_hasImage_4 : decode cX4_hasImage 4 = .ok (.invokestatic 50, 3) := by decide +kernel
theorem dX4_hasImage_7 : decode cX4_hasImage 7 = .ok (.ifCond .ne 7, 3) := by decide +kernel
theorem dX4_hasImage_10 : decode cX4_hasImage 10 = .ok (.iconst 1, 1) := by decide +kernel
theorem dX4_hasImage_11 : decode cX4_hasImage 11 = .ok (.goto 4, 3) := by decide +kernel
theorem dX4_hasImage_14 : decode cX4_hasImage 14 = .ok (.iconst 0, 1) := by decide +kernel
theorem dX4_hasImage_15 : decode cX4_hasImage 15 = .ok (.ireturn, 1) := by decide +kernel
set_option maxRecDepth 20000 in
theorem ggX4_back_X6_isTiny : GoodIn wsX4_back wsX6_isTiny := goodIn_r _ [5, 6, 7, 8, 4, 9] rfl (by decide +kernel)
set_option maxRecDepth 20000 in
theorem gX4_back_X6_isTiny_n50 : GoodIn wsX4_back (wsX6_isTiny) := ggX4_back_X6_isTiny
theorem dX4_back_0 : decode cX4_back 0 = .ok (.aload_n 0, 1) := by decide +kernel
theorem dX4_back_1 : decode cX4_back 1 = .ok (.getfield 19, 3) := by decide +kernel
theorem dX4_back_4 : decode cX4_back 4 = .ok (.invokestatic 50, 3) := by decide +kernel
theorem dX4_back_7 : decode cX4_back 7 = .ok (.ifCond .eq 7, 3) := by decide +kernel
theorem dX4_back_10 : decode cX4_back 10 = .ok (.dconst 0, 1) := by decide +kernel
theorem dX4_back_11 : decode cX4_back 11 = .ok (.goto 13, 3) := by decide +kernel
theorem dX4_back_14 : decode cX4_back 14 = .ok (.aload_n 0, 1) := by decide +kernel
theorem dX4_back_15 : decode cX4_back 15 = .ok (.getfield 13, 3) := by decide +kernel
theorem dX4_back_18 : decode cX4_back 18 = .ok (.aload_n 0, 1) := by decide +kernel
theorem dX4_back_19 : decode cX4_back 19 = .ok (.getfield 19, 3) := by decide +kernel
theorem dX4_back_22 : decode cX4_back 22 = .ok (.ddiv, 1) := by decide +kernel
theorem dX4_back_23 : decode cX4_back 23 = .ok (.dneg, 1) := by decide +kernel
theorem dX4_back_24 : decode cX4_back 24 = .ok (.dreturn, 1) := by decide +kernel
set_option maxRecDepth 20000 in
theorem ggX4_magnification_X4_back : GoodIn wsX4_magnification wsX4_back := goodIn_r _ [7, 8, 9, 10, 11, 12, 13, 14, 15, 16, 17, 18, 19, 20] rfl (by decide +kernel)
set_option maxRecDepth 20000 in
theorem gX4_magnification_X4_back : GoodIn wsX4_magnification (wsV RX4 56 RX4 yX4_back wsX4_back) := goodIn_app (goodIn_of _ (by decide +kernel)) ggX4_magnification_X4_back
theorem dX4_magnification_0 : decode cX4_magnification 0 = .ok (.aload_n 0, 1) := by decide +kernel
theorem dX4_magnification_1 : decode cX4_magnification 1 = .ok (.getfield 7, 3) := by decide +kernel
theorem dX4_magnification_4 : decode cX4_magnification 4 = .ok (.aload_n 0, 1) := by decide +kernel
theorem dX4_magnification_5 : decode cX4_magnification 5 = .ok (.getfield 16, 3) := by decide +kernel
theorem dX4_magnification_8 : decode cX4_magnification 8 = .ok (.aload_n 0, 1) := by decide +kernel
theorem dX4_magnification_9 : decode cX4_magnification 9 = .ok (.invokevirtual 56, 3) := by decide +kernel
theorem dX4_magnification_12 : decode cX4_magnification 12 = .ok (.dmul, 1) := by decide +kernel
theorem dX4_magnification_13 : decode cX4_magnification 13 = .ok (.dadd, 1) := by decide +kernel
theorem dX4_magnification_14 : decode cX4_magnification 14 = .ok (.dreturn, 1) := by decide +kernel
set_option maxRecDepth 20000 in
theorem ggX4_focus_X6_isTiny : GoodIn wsX4_focus wsX6_isTiny := goodIn_r _ [4, 5, 6, 7, 3, 8] rfl (by decide +kernel)
set_option maxRecDepth 20000 in
theorem gX4_focus_X6_isTiny_n50 : GoodIn wsX4_focus (wsX6_isTiny) := ggX4_focus_X6_isTiny
theorem dX4_focus_0 : decode cX4_focus 0 = .ok (.aload_n 0, 1) := by decide +kernel
theorem dX4_focus_1 : decode cX4_focus 1 = .ok (.getfield 16, 3) := by decide +kernel
theorem dX4_focus_4 : decode cX4_focus 4 = .ok (.invokestatic 50, 3) := by decide +kernel
theorem dX4_focus_7 : decode cX4_focus 7 = .ok (.ifCond .eq 7, 3) := by decide +kernel
theorem dX4_focus_10 : decode cX4_focus 10 = .ok (.dconst 0, 1) := by decide +kernel
theorem dX4_focus_11 : decode cX4_focus 11 = .ok (.goto 10, 3) := by decide +kernel
theorem dX4_focus_14 : decode cX4_focus 14 = .ok (.dconst 1, 1) := by decide +kernel
theorem dX4_focus_15 : decode cX4_focus 15 = .ok (.aload_n 0, 1) := by decide +kernel
theorem dX4_focus_16 : decode cX4_focus 16 = .ok (.getfield 16, 3) := by decide +kernel
theorem dX4_focus_19 : decode cX4_focus 19 = .ok (.ddiv, 1) := by decide +kernel
theorem dX4_focus_20 : decode cX4_focus 20 = .ok (.dneg, 1) := by decide +kernel
theorem dX4_focus_21 : decode cX4_focus 21 = .ok (.dreturn, 1) := by decide +kernel
theorem dX5_init_0 : decode cX5_init 0 = .ok (.aload_n 0, 1) := by decide +kernel
theorem dX5_init_1 : decode cX5_init 1 = .ok (.invokespecial 3, 3) := by decide +kernel
theorem dX5_init_4 : decode cX5_init 4 = .ok (.aload_n 0, 1) := by decide +kernel
theorem dX5_init_5 : decode cX5_init 5 = .ok (.bipush 8, 2) := by decide +kernel
theorem dX5_init_7 : decode cX5_init 7 = .ok (.newarray .int, 2) := by decide +kernel
theorem dX5_init_9 : decode cX5_init 9 = .ok (.putfield 9, 3) := by decide +kernel
theorem dX5_init_12 : decode cX5_init 12 = .ok (.aload_n 0, 1) := by decide +kernel
theorem dX5_init_13 : decode cX5_init 13 = .ok (.bipush 8, 2) := by decide +kernel
theorem dX5_init_15 : decode cX5_init 15 = .ok (.newarray .int, 2) := by decide +kernel
theorem dX5_init_17 : decode cX5_init 17 = .ok (.putfield 15, 3) := by decide +kernel
theorem dX5_init_20 : decode cX5_init 20 = .ok (.aload_n 0, 1) := by decide +kernel
theorem dX5_init_21 : decode cX5_init 21 = .ok (.bipush 8, 2) := by decide +kernel
theorem dX5_init_23 : decode cX5_init 23 = .ok (.newarray .int, 2) := by decide +kernel
theorem dX5_init_25 : decode cX5_init 25 = .ok (.putfield 18, 3) := by decide +kernel
theorem dX5_init_28 : decode cX5_init 28 = .ok (.aload_n 0, 1) := by decide +kernel
theorem dX5_init_29 : decode cX5_init 29 = .ok (.bipush 8, 2) := by decide +kernel
theorem dX5_init_31 : decode cX5_init 31 = .ok (.newarray .double, 2) := by decide +kernel
theorem dX5_init_33 : decode cX5_init 33 = .ok (.putfield 21, 3) := by decide +kernel
theorem dX5_init_36 : decode cX5_init 36 = .ok (.return_, 1) := by decide +kernel
theorem dX5_clear_0 : decode cX5_clear 0 = .ok (.aload_n 0, 1) := by decide +kernel
theorem dX5_clear_1 : decode cX5_clear 1 = .ok (.iconst 0, 1) := by decide +kernel
theorem dX5_clear_2 : decode cX5_clear 2 = .ok (.putfield 25, 3) := by decide +kernel
theorem dX5_clear_5 : decode cX5_clear 5 = .ok (.aload_n 0, 1) := by decide +kernel
theorem dX5_clear_6 : decode cX5_clear 6 = .ok (.iload_n 1, 1) := by decide +kernel
theorem dX5_clear_7 : decode cX5_clear 7 = .ok (.putfield 29, 3) := by decide +kernel
theorem dX5_clear_10 : decode cX5_clear 10 = .ok (.aload_n 0, 1) := by decide +kernel
theorem dX5_clear_11 : decode cX5_clear 11 = .ok (.iload_n 2, 1) := by decide +kernel
theorem dX5_clear_12 : decode cX5_clear 12 = .ok (.putfield 32, 3) := by decide +kernel
theorem dX5_clear_15 : decode cX5_clear 15 = .ok (.return_, 1) := by decide +kernel
theorem dX5_join_0 : decode cX5_join 0 = .ok (.iload_n 2, 1) := by decide +kernel
theorem dX5_join_1 : decode cX5_join 1 = .ok (.aload_n 0, 1) := by decide +kernel
theorem dX5_join_2 : decode cX5_join 2 = .ok (.getfield 29, 3) := by decide +kernel
theorem dX5_join_5 : decode cX5_join 5 = .ok (.if_icmp .le 20, 3) := by decide +kernel
theorem dX5_join_8 : decode cX5_join 8 = .ok (.iload_n 2, 1) := by decide +kernel
theorem dX5_join_9 : decode cX5_join 9 = .ok (.aload_n 0, 1) := by decide +kernel
theorem dX5_join_10 : decode cX5_join 10 = .ok (.getfield 32, 3) := by decide +kernel
theorem dX5_join_13 : decode cX5_join 13 = .ok (.if_icmp .ge 12, 3) := by decide +kernel
theorem dX5_join_16 : decode cX5_join 16 = .ok (.aload_n 0, 1) := by decide +kernel
theorem dX5_join_17 : decode cX5_join 17 = .ok (.getfield 25, 3) := by decide +kernel
theorem dX5_join_20 : decode cX5_join 20 = .ok (.bipush 8, 2) := by decide +kernel
theorem dX5_join_22 : decode cX5_join 22 = .ok (.if_icmp .lt 4, 3) := by decide +kernel
theorem dX5_join_25 : decode cX5_join 25 = .ok (.return_, 1) := by decide +kernel
theorem dX5_join_26 : decode cX5_join 26 = .ok (.aload_n 0, 1) := by decide +kernel
theorem dX5_join_27 : decode cX5_join 27 = .ok (.getfield 25, 3) := by decide +kernel
theorem dX5_join_30 : decode cX5_join 30 = .ok (.istore 6, 2) := by decide +kernel
theorem dX5_join_32 : decode cX5_join 32 = .ok (.iload 6, 2) := by decide +kernel
theorem dX5_join_34 : decode cX5_join 34 = .ok (.ifCond .le 86, 3) := by decide +kernel
theorem dX5_join_37 : decode cX5_join 37 = .ok (.aload_n 0, 1) := by decide +kernel
theorem dX5_join_38 : decode cX5_join 38 = .ok (.getfield 15, 3) := by decide +kernel
theorem dX5_join_41 : decode cX5_join 41 = .ok (.iload 6, 2) := by decide +kernel
theorem dX5_join_43 : decode cX5_join 43 = .ok (.iconst 1, 1) := by decide +kernel
theorem dX5_join_44 : decode cX5_join 44 = .ok (.isub, 1) := by decide +kernel
theorem dX5_join_45 : decode cX5_join 45 = .ok (.iaload, 1) := by decide +kernel
theorem dX5_join_46 : decode cX5_join 46 = .ok (.iload_n 2, 1) := by decide +kernel
theorem dX5_join_47 : decode cX5_join 47 = .ok (.if_icmp .le 73, 3) := by decide +kernel
theorem dX5_join_50 : decode cX5_join 50 = .ok (.aload_n 0, 1) := by decide +kernel
theorem dX5_join_51 : decode cX5_join 51 = .ok (.getfield 9, 3) := by decide +kernel
theorem dX5_join_54 : decode cX5_join 54 = .ok (.iload 6, 2) := by decide +kernel
theorem dX5_join_56 : decode cX5_join 56 = .ok (.aload_n 0, 1) := by decide +kernel
theorem dX5_join_57 : decode cX5_join 57 = .ok (.getfield 9, 3) := by decide +kernel
theorem dX5_join_60 : decode cX5_join 60 = .ok (.iload 6, 2) := by decide +kernel
theorem dX5_join_62 : decode cX5_join 62 = .ok (.iconst 1, 1) := by decide +kernel
theorem dX5_join_63 : decode cX5_join 63 = .ok (.isub, 1) := by decide +kernel
theorem dX5_join_64 : decode cX5_join 64 = .ok (.iaload, 1) := by decide +kernel
theorem dX5_join_65 : decode cX5_join 65 = .ok (.iastore, 1) := by decide +kernel
theorem dX5_join_66 : decode cX5_join 66 = .ok (.aload_n 0, 1) := by decide +kernel
theorem dX5_join_67 : decode cX5_join 67 = .ok (.getfield 15, 3) := by decide +kernel
theorem dX5_join_70 : decode cX5_join 70 = .ok (.iload 6, 2) := by decide +kernel
theorem dX5_join_72 : decode cX5_join 72 = .ok (.aload_n 0, 1) := by decide +kernel
theorem dX5_join_73 : decode cX5_join 73 = .ok (.getfield 15, 3) := by decide +kernel
theorem dX5_join_76 : decode cX5_join 76 = .ok (.iload 6, 2) := by decide +kernel
theorem dX5_join_78 : decode cX5_join 78 = .ok (.iconst 1, 1) := by decide +kernel
theorem dX5_join_79 : decode cX5_join 79 = .ok (.isub, 1) := by decide +kernel
theorem dX5_join_80 : decode cX5_join 80 = .ok (.iaload, 1) := by decide +kernel
theorem dX5_join_81 : decode cX5_join 81 = .ok (.iastore, 1) := by decide +kernel
theorem dX5_join_82 : decode cX5_join 82 = .ok (.aload_n 0, 1) := by decide +kernel
theorem dX5_join_83 : decode cX5_join 83 = .ok (.getfield 18, 3) := by decide +kernel
theorem dX5_join_86 : decode cX5_join 86 = .ok (.iload 6, 2) := by decide +kernel
theorem dX5_join_88 : decode cX5_join 88 = .ok (.aload_n 0, 1) := by decide +kernel
theorem dX5_join_89 : decode cX5_join 89 = .ok (.getfield 18, 3) := by decide +kernel
theorem dX5_join_92 : decode cX5_join 92 = .ok (.iload 6, 2) := by decide +kernel
theorem dX5_join_94 : decode cX5_join 94 = .ok (.iconst 1, 1) := by decide +kernel
theorem dX5_join_95 : decode cX5_join 95 = .ok (.isub, 1) := by decide +kernel
theorem dX5_join_96 : decode cX5_join 96 = .ok (.iaload, 1) := by decide +kernel
theorem dX5_join_97 : decode cX5_join 97 = .ok (.iastore, 1) := by decide +kernel
theorem dX5_join_98 : decode cX5_join 98 = .ok (.aload_n 0, 1) := by decide +kernel
theorem dX5_join_99 : decode cX5_join 99 = .ok (.getfield 21, 3) := by decide +kernel
theorem dX5_join_102 : decode cX5_join 102 = .ok (.iload 6, 2) := by decide +kernel
theorem dX5_join_104 : decode cX5_join 104 = .ok (.aload_n 0, 1) := by decide +kernel
theorem dX5_join_105 : decode cX5_join 105 = .ok (.getfield 21, 3) := by decide +kernel
theorem dX5_join_108 : decode cX5_join 108 = .ok (.iload 6, 2) := by decide +kernel
theorem dX5_join_110 : decode cX5_join 110 = .ok (.iconst 1, 1) := by decide +kernel
theorem dX5_join_111 : decode cX5_join 111 = .ok (.isub, 1) := by decide +kernel
theorem dX5_join_112 : decode cX5_join 112 = .ok (.daload, 1) := by decide +kernel
theorem dX5_join_113 : decode cX5_join 113 = .ok (.dastore, 1) := by decide +kernel
theorem dX5_join_114 : decode cX5_join 114 = .ok (.iinc 6 (-1), 3) := by decide +kernel
theorem dX5_join_117 : decode cX5_join 117 = .ok (.goto (-85), 3) := by decide +kernel
theorem dX5_join_120 : decode cX5_join 120 = .ok (.aload_n 0, 1) := by decide +kernel
theorem dX5_join_121 : decode cX5_join 121 = .ok (.getfield 9, 3) := by decide +kernel
theorem dX5_join_124 : decode cX5_join 124 = .ok (.iload 6, 2) := by decide +kernel
theorem dX5_join_126 : decode cX5_join 126 = .ok (.iload_n 1, 1) := by decide +kernel
theorem dX5_join_127 : decode cX5_join 127 = .ok (.iastore, 1) := by decide +kernel
theorem dX5_join_128 : decode cX5_join 128 = .ok (.aload_n 0, 1) := by decide +kernel
theorem dX5_join_129 : decode cX5_join 129 = .ok (.getfield 15, 3) := by decide +kernel
theorem dX5_join_132 : decode cX5_join 132 = .ok (.iload 6, 2) := by decide +kernel
theorem dX5_join_134 : decode cX5_join 134 = .ok (.iload_n 2, 1) := by decide +kernel
theorem dX5_join_135 : decode cX5_join 135 = .ok (.iastore, 1) := by decide +kernel
theorem dX5_join_136 : decode cX5_join 136 = .ok (.aload_n 0, 1) := by decide +kernel
theorem dX5_join_137 : decode cX5_join 137 = .ok (.getfield 18, 3) := by decide +kernel
theorem dX5_join_140 : decode cX5_join 140 = .ok (.iload 6, 2) := by decide +kernel
theorem dX5_join_142 : decode cX5_join 142 = .ok (.iload_n 3, 1) := by decide +kernel
