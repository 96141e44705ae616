theorem dX5_join_143 : decode cX5_join 143 = .ok (.iastore, 1) := by decide +kernel
theorem dX5_join_144 : decode cX5_join 144 = .ok (.aload_n 0, 1) := by decide +kernel
theorem dX5_join_145 : decode cX5_join 145 = .ok (.getfield 21, 3) := by decide +kernel
theorem dX5_join_148 : decode cX5_join 148 = .ok (.iload 6, 2) := by decide +kernel
theorem dX5_join_150 : decode cX5_join 150 = .ok (.dload 4, 2) := by decide +kernel
theorem dX5_join_152 : decode cX5_join 152 = .ok (.dastore, 1) := by decide +kernel
theorem dX5_join_153 : decode cX5_join 153 = .ok (.aload_n 0, 1) := by decide +kernel
theorem dX5_join_154 : decode cX5_join 154 = .ok (.dup, 1) := by decide +kernel
theorem dX5_join_155 : decode cX5_join 155 = .ok (.getfield 25, 3) := by decide +kernel
theorem dX5_join_158 : decode cX5_join 158 = .ok (.iconst 1, 1) := by decide +kernel
theorem dX5_join_159 : decode cX5_join 159 = .ok (.iadd, 1) := by decide +kernel
theorem dX5_join_160 : decode cX5_join 160 = .ok (.putfield 25, 3) := by decide +kernel
theorem dX5_join_163 : decode cX5_join 163 = .ok (.return_, 1) := by decide +kernel
theorem dX5_positionOf_0 : decode cX5_positionOf 0 = .ok (.iconst 0, 1) := by decide +kernel
theorem dX5_positionOf_1 : decode cX5_positionOf 1 = .ok (.istore_n 2, 1) := by decide +kernel
theorem dX5_positionOf_2 : decode cX5_positionOf 2 = .ok (.iload_n 2, 1) := by decide +kernel
theorem dX5_positionOf_3 : decode cX5_positionOf 3 = .ok (.aload_n 0, 1) := by decide +kernel
theorem dX5_positionOf_4 : decode cX5_positionOf 4 = .ok (.getfield 25, 3) := by decide +kernel
theorem dX5_positionOf_7 : decode cX5_positionOf 7 = .ok (.if_icmp .ge 21, 3) := by decide +kernel
theorem dX5_positionOf_10 : decode cX5_positionOf 10 = .ok (.aload_n 0, 1) := by decide +kernel
theorem dX5_positionOf_11 : decode cX5_positionOf 11 = .ok (.getfield 9, 3) := by decide +kernel
theorem dX5_positionOf_14 : decode cX5_positionOf 14 = .ok (.iload_n 2, 1) := by decide +kernel
theorem dX5_positionOf_15 : decode cX5_positionOf 15 = .ok (.iaload, 1) := by decide +kernel
theorem dX5_positionOf_16 : decode cX5_positionOf 16 = .ok (.iload_n 1, 1) := by decide +kernel
theorem dX5_positionOf_17 : decode cX5_positionOf 17 = .ok (.if_icmp .ne 5, 3) := by decide +kernel
theorem dX5_positionOf_20 : decode cX5_positionOf 20 = .ok (.iload_n 2, 1) := by decide +kernel
theorem dX5_positionOf_21 : decode cX5_positionOf 21 = .ok (.ireturn, 1) := by decide +kernel
theorem dX5_positionOf_22 : decode cX5_positionOf 22 = .ok (.iinc 2 1, 3) := by decide +kernel
theorem dX5_positionOf_25 : decode cX5_positionOf 25 = .ok (.goto (-23), 3) := by decide +kernel
theorem dX5_positionOf_28 : decode cX5_positionOf 28 = .ok (.iconst (-1), 1) := by decide +kernel
theorem dX5_positionOf_29 : decode cX5_positionOf 29 = .ok (.ireturn, 1) := by decide +kernel
theorem dX5_numberAt_0 : decode cX5_numberAt 0 = .ok (.iload_n 1, 1) := by decide +kernel
theorem dX5_numberAt_1 : decode cX5_numberAt 1 = .ok (.ifCond .lt 20, 3) := by decide +kernel
theorem dX5_numberAt_4 : decode cX5_numberAt 4 = .ok (.iload_n 1, 1) := by decide +kernel
theorem dX5_numberAt_5 : decode cX5_numberAt 5 = .ok (.aload_n 0, 1) := by decide +kernel
theorem dX5_numberAt_6 : decode cX5_numberAt 6 = .ok (.getfield 25, 3) := by decide +kernel
theorem dX5_numberAt_9 : decode cX5_numberAt 9 = .ok (.if_icmp .ge 12, 3) := by decide +kernel
theorem dX5_numberAt_12 : decode cX5_numberAt 12 = .ok (.aload_n 0, 1) := by decide +kernel
theorem dX5_numberAt_13 : decode cX5_numberAt 13 = .ok (.getfield 9, 3) := by decide +kernel
theorem dX5_numberAt_16 : decode cX5_numberAt 16 = .ok (.iload_n 1, 1) := by decide +kernel
theorem dX5_numberAt_17 : decode cX5_numberAt 17 = .ok (.iaload, 1) := by decide +kernel
theorem dX5_numberAt_18 : decode cX5_numberAt 18 = .ok (.goto 4, 3) := by decide +kernel
theorem dX5_numberAt_21 : decode cX5_numberAt 21 = .ok (.iconst (-1), 1) := by decide +kernel
theorem dX5_numberAt_22 : decode cX5_numberAt 22 = .ok (.ireturn, 1) := by decide +kernel
theorem dX5_lastPlace_0 : decode cX5_lastPlace 0 = .ok (.aload_n 0, 1) := by decide +kernel
theorem dX5_lastPlace_1 : decode cX5_lastPlace 1 = .ok (.getfield 25, 3) := by decide +kernel
theorem dX5_lastPlace_4 : decode cX5_lastPlace 4 = .ok (.ifCond .le 17, 3) := by decide +kernel
theorem dX5_lastPlace_7 : decode cX5_lastPlace 7 = .ok (.aload_n 0, 1) := by decide +kernel
theorem dX5_lastPlace_8 : decode cX5_lastPlace 8 = .ok (.getfield 15, 3) := by decide +kernel
theorem dX5_lastPlace_11 : decode cX5_lastPlace 11 = .ok (.aload_n 0, 1) := by decide +kernel
theorem dX5_lastPlace_12 : decode cX5_lastPlace 12 = .ok (.getfield 25, 3) := by decide +kernel
theorem dX5_lastPlace_15 : decode cX5_lastPlace 15 = .ok (.iconst 1, 1) := by decide +kernel
theorem dX5_lastPlace_16 : decode cX5_lastPlace 16 = .ok (.isub, 1) := by decide +kernel
theorem dX5_lastPlace_17 : decode cX5_lastPlace 17 = .ok (.iaload, 1) := by decide +kernel
theorem dX5_lastPlace_18 : decode cX5_lastPlace 18 = .ok (.goto 7, 3) := by decide +kernel
theorem dX5_lastPlace_21 : decode cX5_lastPlace 21 = .ok (.aload_n 0, 1) := by decide +kernel
theorem dX5_lastPlace_22 : decode cX5_lastPlace 22 = .ok (.getfield 29, 3) := by decide +kernel
theorem dX5_lastPlace_25 : decode cX5_lastPlace 25 = .ok (.ireturn, 1) := by decide +kernel
set_option maxRecDepth 20000 in
theorem ggX6_init_X5_init : GoodIn wsX6_init wsX5_init := goodIn_r _ [37, 38, 2, 3, 4, 39, 40, 41, 42, 43, 78, 79, 80, 81, 82, 83, 84] rfl (by decide +kernel)
set_option maxRecDepth 20000 in
theorem gX6_init_X5_init : GoodIn wsX6_init (wsX5_init) := ggX6_init_X5_init
set_option maxRecDepth 20000 in
theorem ggX6_init_X3_init : GoodIn wsX6_init wsX3_init := goodIn_r _ [45, 46, 2, 3] rfl (by decide +kernel)
set_option maxRecDepth 20000 in
theorem gX6_init_X3_init_n38 : GoodIn wsX6_init (wsX3_init) := ggX6_init_X3_init
set_option maxRecDepth 20000 in
theorem ggX6_init_X1_init : GoodIn wsX6_init wsX1_init := goodIn_r _ [49, 50, 2, 3, 51, 16, 17, 52, 4, 53, 44, 45, 46, 85, 86, 87, 88, 89, 90, 91, 92] rfl (by decide +kernel)
set_option maxRecDepth 20000 in
theorem gX6_init_X1_init : GoodIn wsX6_init (wsX1_init) := ggX6_init_X1_init
set_option maxRecDepth 20000 in
theorem ggX6_init_X4_init : GoodIn wsX6_init wsX4_init := goodIn_r _ [55, 56, 2, 3] rfl (by decide +kernel)
set_option maxRecDepth 20000 in
theorem gX6_init_X4_init_n52 : GoodIn wsX6_init (wsX4_init) := ggX6_init_X4_init
set_option maxRecDepth 20000 in
theorem ggX6_init_X2_init : GoodIn wsX6_init wsX2_init := goodIn_r _ [58, 59, 2, 3] rfl (by decide +kernel)
set_option maxRecDepth 20000 in
theorem gX6_init_X2_init_n59 : GoodIn wsX6_init (wsX2_init) := ggX6_init_X2_init
set_option maxRecDepth 20000 in
theorem ggX6_init_X0_init : GoodIn wsX6_init wsX0_init := goodIn_r _ [61, 62, 2, 3] rfl (by decide +kernel)
set_option maxRecDepth 20000 in
theorem gX6_init_X0_init_n66 : GoodIn wsX6_init (wsX0_init) := ggX6_init_X0_init
theorem dX6_init_0 : decode cX6_init 0 = .ok (.aload_n 0, 1) := by decide +kernel
theorem dX6_init_1 : decode cX6_init 1 = .ok (.invokespecial 1, 3) := by decide +kernel
theorem dX6_init_4 : decode cX6_init 4 = .ok (.aload_n 0, 1) := by decide +kernel
theorem dX6_init_5 : decode cX6_init 5 = .ok (.bipush 8, 2) := by decide +kernel
theorem dX6_init_7 : decode cX6_init 7 = .ok (.newarray .int, 2) := by decide +kernel
theorem dX6_init_9 : decode cX6_init 9 = .ok (.putfield 9, 3) := by decide +kernel
theorem dX6_init_12 : decode cX6_init 12 = .ok (.aload_n 0, 1) := by decide +kernel
theorem dX6_init_13 : decode cX6_init 13 = .ok (.bipush 8, 2) := by decide +kernel
theorem dX6_init_15 : decode cX6_init 15 = .ok (.newarray .int, 2) := by decide +kernel
theorem dX6_init_17 : decode cX6_init 17 = .ok (.putfield 13, 3) := by decide +kernel
theorem dX6_init_20 : decode cX6_init 20 = .ok (.aload_n 0, 1) := by decide +kernel
theorem dX6_init_21 : decode cX6_init 21 = .ok (.bipush 8, 2) := by decide +kernel
theorem dX6_init_23 : decode cX6_init 23 = .ok (.newarray .int, 2) := by decide +kernel
theorem dX6_init_25 : decode cX6_init 25 = .ok (.putfield 16, 3) := by decide +kernel
theorem dX6_init_28 : decode cX6_init 28 = .ok (.aload_n 0, 1) := by decide +kernel
theorem dX6_init_29 : decode cX6_init 29 = .ok (.bipush 8, 2) := by decide +kernel
theorem dX6_init_31 : decode cX6_init 31 = .ok (.newarray .int, 2) := by decide +kernel
theorem dX6_init_33 : decode cX6_init 33 = .ok (.putfield 19, 3) := by decide +kernel
theorem dX6_init_36 : decode cX6_init 36 = .ok (.aload_n 0, 1) := by decide +kernel
theorem dX6_init_37 : decode cX6_init 37 = .ok (.bipush 99, 2) := by decide +kernel
theorem dX6_init_39 : decode cX6_init 39 = .ok (.putfield 22, 3) := by decide +kernel
theorem dX6_init_42 : decode cX6_init 42 = .ok (.aload_n 0, 1) := by decide +kernel
theorem dX6_init_43 : decode cX6_init 43 = .ok (.iconst 4, 1) := by decide +kernel
theorem dX6_init_44 : decode cX6_init 44 = .ok (.putfield 26, 3) := by decide +kernel
theorem dX6_init_47 : decode cX6_init 47 = .ok (.aload_n 0, 1) := by decide +kernel
theorem dX6_init_48 : decode cX6_init 48 = .ok (.new 29, 3) := by decide +kernel
theorem dX6_init_51 : decode cX6_init 51 = .ok (.dup, 1) := by decide +kernel
theorem dX6_init_52 : decode cX6_init 52 = .ok (.invokespecial 31, 3) := by decide +kernel
theorem dX6_init_55 : decode cX6_init 55 = .ok (.putfield 32, 3) := by decide +kernel
theorem dX6_init_58 : decode cX6_init 58 = .ok (.aload_n 0, 1) := by decide +kernel
theorem dX6_init_59 : decode cX6_init 59 = .ok (.new 36, 3) := by decide +kernel
theorem dX6_init_62 : decode cX6_init 62 = .ok (.dup, 1) := by decide +kernel
theorem dX6_init_63 : decode cX6_init 63 = .ok (.invokespecial 38, 3) := by decide +kernel
theorem dX6_init_66 : decode cX6_init 66 = .ok (.putfield 39, 3) := by decide +kernel
theorem dX6_init_69 : decode cX6_init 69 = .ok (.aload_n 0, 1) := by decide +kernel
theorem dX6_init_70 : decode cX6_init 70 = .ok (.new 43, 3) := by decide +kernel
theorem dX6_init_73 : decode cX6_init 73 = .ok (.dup, 1) := by decide +kernel
theorem dX6_init_74 : decode cX6_init 74 = .ok (.invokespecial 45, 3) := by decide +kernel
theorem dX6_init_77 : decode cX6_init 77 = .ok (.putfield 46, 3) := by decide +kernel
theorem dX6_init_80 : decode cX6_init 80 = .ok (.aload_n 0, 1) := by decide +kernel
theorem dX6_init_81 : decode cX6_init 81 = .ok (.new 50, 3) := by decide +kernel
theorem dX6_init_84 : decode cX6_init 84 = .ok (.dup, 1) := by decide +kernel
theorem dX6_init_85 : decode cX6_init 85 = .ok (.invokespecial 52, 3) := by decide +kernel
theorem dX6_init_88 : decode cX6_init 88 = .ok (.putfield 53, 3) := by decide +kernel
theorem dX6_init_91 : decode cX6_init 91 = .ok (.aload_n 0, 1) := by decide +kernel
theorem dX6_init_92 : decode cX6_init 92 = .ok (.new 57, 3) := by decide +kernel
theorem dX6_init_95 : decode cX6_init 95 = .ok (.dup, 1) := by decide +kernel
theorem dX6_init_96 : decode cX6_init 96 = .ok (.invokespecial 59, 3) := by decide +kernel
theorem dX6_init_99 : decode cX6_init 99 = .ok (.putfield 60, 3) := by decide +kernel
theorem dX6_init_102 : decode cX6_init 102 = .ok (.aload_n 0, 1) := by decide +kernel
theorem dX6_init_103 : decode cX6_init 103 = .ok (.new 64, 3) := by decide +kernel
theorem dX6_init_106 : decode cX6_init 106 = .ok (.dup, 1) := by decide +kernel
theorem dX6_init_107 : decode cX6_init 107 = .ok (.invokespecial 66, 3) := by decide +kernel
theorem dX6_init_110 : decode cX6_init 110 = .ok (.putfield 67, 3) := by decide +kernel
theorem dX6_init_113 : decode cX6_init 113 = .ok (.return_, 1) := by decide +kernel
set_option maxRecDepth 20000 in
theorem ggX6_lens_X6_needPlace : GoodIn wsX6_lens wsX6_needPlace := goodIn_ca (goodIn_r _ [6, 7, 8] rfl (by decide +kernel)) (goodIn_sub (fun _ h => List.mem_cons_of_mem _ (List.mem_append_left _ (List.mem_append_right _ h))) (by decide +kernel))
set_option maxRecDepth 20000 in
theorem gX6_lens_X6_needPlace : GoodIn wsX6_lens (va_wsS RX6 71 yX6_needPlace wsX6_needPlace) := goodIn_app (goodIn_of _ (by decide +kernel)) ggX6_lens_X6_needPlace
set_option maxRecDepth 20000 in
theorem ggX6_lens_X6_needHalf : GoodIn wsX6_lens wsX6_needHalf := goodIn_ca (goodIn_r _ [11, 1, 2] rfl (by decide +kernel)) (goodIn_sub (fun _ h => List.mem_cons_of_mem _ (List.mem_append_left _ (List.mem_append_left _ (List.mem_append_right _ h)))) (by decide +kernel))
set_option maxRecDepth 20000 in
theorem gX6_lens_X6_needHalf : GoodIn wsX6_lens (va_wsS RX6 75 yX6_needHalf wsX6_needHalf) := goodIn_app (goodIn_of _ (by decide +kernel)) ggX6_lens_X6_needHalf
set_option maxRecDepth 20000 in
theorem ggX6_lens_X6_put : GoodIn wsX6_lens wsX6_put := goodIn_ca (goodIn_r _ [15, 16, 17, 18, 19, 20, 21, 22, 23, 24, 25, 5, 26, 27, 28, 29, 30, 31, 32, 33, 34, 35, 36, 37, 38, 39, 40, 41] rfl (by decide +kernel)) (goodIn_sub (fun _ h => List.mem_cons_of_mem _ (List.mem_append_right _ h)) (by decide +kernel))
set_option maxRecDepth 20000 in
theorem gX6_lens_X6_put : GoodIn wsX6_lens (wsV RX6 87 RX6 yX6_put wsX6_put) := goodIn_app (goodIn_of _ (by decide +kernel)) ggX6_lens_X6_put
theorem dX6_lens_0 : decode cX6_lens 0 = .ok (.iload_n 1, 1) := by decide +kernel
theorem dX6_lens_1 : decode cX6_lens 1 = .ok (.invokestatic 71, 3) := by decide +kernel
theorem dX6_lens_4 : decode cX6_lens 4 = .ok (.iload_n 2, 1) := by decide +kernel
theorem dX6_lens_5 : decode cX6_lens 5 = .ok (.invokestatic 75, 3) := by decide +kernel
theorem dX6_lens_8 : decode cX6_lens 8 = .ok (.iload_n 3, 1) := by decide +kernel
theorem dX6_lens_9 : decode cX6_lens 9 = .ok (.ifCond .eq 15, 3) := by decide +kernel
theorem dX6_lens_12 : decode cX6_lens 12 = .ok (.iload_n 3, 1) := by decide +kernel
theorem dX6_lens_13 : decode cX6_lens 13 = .ok (.bipush (-50), 2) := by decide +kernel
theorem dX6_lens_15 : decode cX6_lens 15 = .ok (.if_icmp .lt 9, 3) := by decide +kernel
theorem dX6_lens_18 : decode cX6_lens 18 = .ok (.iload_n 3, 1) := by decide +kernel
theorem dX6_lens_19 : decode cX6_lens 19 = .ok (.bipush 50, 2) := by decide +kernel
theorem dX6_lens_21 : decode cX6_lens 21 = .ok (.if_icmp .le 13, 3) := by decide +kernel
theorem dX6_lens_24 : decode cX6_lens 24 = .ok (.new 78, 3) := by decide +kernel
theorem dX6_lens_27 : decode cX6_lens 27 = .ok (.dup, 1) := by decide +kernel
theorem dX6_lens_28 : decode cX6_lens 28 = .ok (.ldc 80, 2) := by decide +kernel
theorem dX6_lens_30 : decode cX6_lens 30 = .ok (.invokespecial 82, 3) := by decide +kernel
theorem dX6_lens_33 : decode cX6_lens 33 = .ok (.athrow, 1) := by decide +kernel
theorem dX6_lens_34 : decode cX6_lens 34 = .ok (.iload 4, 2) := by decide +kernel
theorem dX6_lens_36 : decode cX6_lens 36 = .ok (.ifCond .lt 9, 3) := by decide +kernel
theorem dX6_lens_39 : decode cX6_lens 39 = .ok (.iload 4, 2) := by decide +kernel
theorem dX6_lens_41 : decode cX6_lens 41 = .ok (.iconst 2, 1) := by decide +kernel
theorem dX6_lens_42 : decode cX6_lens 42 = .ok (.if_icmp .le 13, 3) := by decide +kernel
theorem dX6_lens_45 : decode cX6_lens 45 = .ok (.new 78, 3) := by decide +kernel
theorem dX6_lens_48 : decode cX6_lens 48 = .ok (.dup, 1) := by decide +kernel
theorem dX6_lens_49 : decode cX6_lens 49 = .ok (.ldc 85, 2) := by decide +kernel
theorem dX6_lens_51 : decode cX6_lens 51 = .ok (.invokespecial 82, 3) := by decide +kernel
theorem dX6_lens_54 : decode cX6_lens 54 = .ok (.athrow, 1) := by decide +kernel
theorem dX6_lens_55 : decode cX6_lens 55 = .ok (.aload_n 0, 1) := by decide +kernel
theorem dX6_lens_56 : decode cX6_lens 56 = .ok (.iload_n 1, 1) := by decide +kernel
theorem dX6_lens_57 : decode cX6_lens 57 = .ok (.iload_n 2, 1) := by decide +kernel
theorem dX6_lens_58 : decode cX6_lens 58 = .ok (.iload_n 3, 1) := by decide +kernel
theorem dX6_lens_59 : decode cX6_lens 59 = .ok (.iload 4, 2) := by decide +kernel
theorem dX6_lens_61 : decode cX6_lens 61 = .ok (.invokevirtual 87, 3) := by decide +kernel
theorem dX6_lens_64 : decode cX6_lens 64 = .ok (.ireturn, 1) := by decide +kernel
set_option maxRecDepth 20000 in
theorem ggX6_stop_X6_needPlace : GoodIn wsX6_stop wsX6_needPlace := goodIn_ca (goodIn_r _ [4, 5, 6] rfl (by decide +kernel)) (goodIn_sub (fun _ h => List.mem_cons_of_mem _ (List.mem_append_left _ (List.mem_append_left _ (List.mem_append_right _ h)))) (by decide +kernel))
set_option maxRecDepth 20000 in
theorem gX6_stop_X6_needPlace : GoodIn wsX6_stop (va_wsS RX6 71 yX6_needPlace wsX6_needPlace) := goodIn_app (goodIn_of _ (by decide +kernel)) ggX6_stop_X6_needPlace
set_option maxRecDepth 20000 in
theorem ggX6_stop_X6_needHalf : GoodIn wsX6_stop wsX6_needHalf := goodIn_ca (goodIn_r _ [9, 10, 11] rfl (by decide +kernel)) (goodIn_sub (fun _ h => List.mem_cons_of_mem _ (List.mem_append_left _ (List.mem_append_right _ h))) (by decide +kernel))
set_option maxRecDepth 20000 in
theorem gX6_stop_X6_needHalf : GoodIn wsX6_stop (va_wsS RX6 75 yX6_needHalf wsX6_needHalf) := goodIn_app (goodIn_of _ (by decide +kernel)) ggX6_stop_X6_needHalf
set_option maxRecDepth 20000 in
theorem ggX6_stop_X6_put : GoodIn wsX6_stop wsX6_put := goodIn_ca (goodIn_r _ [15, 16, 17, 18, 19, 20, 21, 22, 23, 24, 25, 3, 26, 27, 28, 29, 30, 31, 32, 33, 34, 35, 36, 37, 38, 39, 40, 41] rfl (by decide +kernel)) (goodIn_sub (fun _ h => List.mem_cons_of_mem _ (List.mem_append_right _ h)) (by decide +kernel))
set_option maxRecDepth 20000 in
theorem gX6_stop_X6_put : GoodIn wsX6_stop (wsV RX6 87 RX6 yX6_put wsX6_put) := goodIn_app (goodIn_of _ (by decide +kernel)) ggX6_stop_X6_put
theorem dX6_stop_0 : decode cX6_stop 0 = .ok (.iload_n 1, 1) := by decide +kernel
theorem dX6_stop_1 : decode cX6_stop 1 = .ok (.invokestatic 71, 3) := by decide +kernel
theorem dX6_stop_4 : decode cX6_stop 4 = .ok (.iload_n 2, 1) := by decide +kernel
theorem dX6_stop_5 : decode cX6_stop 5 = .ok (.invokestatic 75, 3) := by decide +kernel
theorem dX6_stop_8 : decode cX6_stop 8 = .ok (.aload_n 0, 1) := by decide +kernel
theorem dX6_stop_9 : decode cX6_stop 9 = .ok (.iload_n 1, 1) := by decide +kernel
theorem dX6_stop_10 : decode cX6_stop 10 = .ok (.iload_n 2, 1) := by decide +kernel
theorem dX6_stop_11 : decode cX6_stop 11 = .ok (.iconst 0, 1) := by decide +kernel
theorem dX6_stop_12 : decode cX6_stop 12 = .ok (.iconst (-1), 1) := by decide +kernel
theorem dX6_stop_13 : decode cX6_stop 13 = .ok (.invokevirtual 87, 3) := by decide +kernel
theorem dX6_stop_16 : decode cX6_stop 16 = .ok (.ireturn, 1) := by decide +kernel
set_option maxRecDepth 20000 in
theorem ggX6_take_X6_needPiece : GoodIn wsX6_take wsX6_needPiece := goodIn_ca (goodIn_r _ [10, 11, 12, 13, 14, 15, 9, 16, 2, 17, 18, 19, 20, 21, 22, 23, 24, 25, 26, 27, 28, 29, 30, 31] rfl (by decide +kernel)) (goodIn_sub (fun _ h => List.mem_cons_of_mem _ (List.mem_append_right _ h)) (by decide +kernel))
set_option maxRecDepth 20000 in
theorem gX6_take_X6_needPiece : GoodIn wsX6_take (wsV RX6 91 RX6 yX6_needPiece wsX6_needPiece) := goodIn_app (goodIn_of _ (by decide +kernel)) ggX6_take_X6_needPiece
theorem dX6_take_0 : decode cX6_take 0 = .ok (.aload_n 0, 1) := by decide +kernel
theorem dX6_take_1 : decode cX6_take 1 = .ok (.iload_n 1, 1) := by decide +kernel
theorem dX6_take_2 : decode cX6_take 2 = .ok (.invokevirtual 91, 3) := by decide +kernel
theorem dX6_take_5 : decode cX6_take 5 = .ok (.aload_n 0, 1) := by decide +kernel
theorem dX6_take_6 : decode cX6_take 6 = .ok (.getfield 9, 3) := by decide +kernel
theorem dX6_take_9 : decode cX6_take 9 = .ok (.iload_n 1, 1) := by decide +kernel
theorem dX6_take_10 : decode cX6_take 10 = .ok (.iaload, 1) := by decide +kernel
theorem dX6_take_11 : decode cX6_take 11 = .ok (.istore_n 2, 1) := by decide +kernel
theorem dX6_take_12 : decode cX6_take 12 = .ok (.iload_n 1, 1) := by decide +kernel
theorem dX6_take_13 : decode cX6_take 13 = .ok (.iconst 1, 1) := by decide +kernel
theorem dX6_take_14 : decode cX6_take 14 = .ok (.iadd, 1) := by decide +kernel
theorem dX6_take_15 : decode cX6_take 15 = .ok (.istore_n 3, 1) := by decide +kernel
theorem dX6_take_16 : decode cX6_take 16 = .ok (.iload_n 3, 1) := by decide +kernel
theorem dX6_take_17 : decode cX6_take 17 = .ok (.aload_n 0, 1) := by decide +kernel
theorem dX6_take_18 : decode cX6_take 18 = .ok (.getfield 94, 3) := by decide +kernel
theorem dX6_take_21 : decode cX6_take 21 = .ok (.if_icmp .ge 65, 3) := by decide +kernel
theorem dX6_take_24 : decode cX6_take 24 = .ok (.aload_n 0, 1) := by decide +kernel
theorem dX6_take_25 : decode cX6_take 25 = .ok (.getfield 9, 3) := by decide +kernel
theorem dX6_take_28 : decode cX6_take 28 = .ok (.iload_n 3, 1) := by decide +kernel
theorem dX6_take_29 : decode cX6_take 29 = .ok (.iconst 1, 1) := by decide +kernel
theorem dX6_take_30 : decode cX6_take 30 = .ok (.isub, 1) := by decide +kernel
theorem dX6_take_31 : decode cX6_take 31 = .ok (.aload_n 0, 1) := by decide +kernel
theorem dX6_take_32 : decode cX6_take 32 = .ok (.getfield 9, 3) := by decide +kernel
theorem dX6_take_35 : decode cX6_take 35 = .ok (.iload_n 3, 1) := by decide +kernel
theorem dX6_take_36 : decode cX6_take 36 = .ok (.iaload, 1) := by decide +kernel
theorem dX6_take_37 : decode cX6_take 37 = .ok (.iastore, 1) := by decide +kernel
theorem dX6_take_38 : decode cX6_take 38 = .ok (.aload_n 0, 1) := by decide +kernel
theorem dX6_take_39 : decode cX6_take 39 = .ok (.getfield 13, 3) := by decide +kernel
theorem dX6_take_42 : decode cX6_take 42 = .ok (.iload_n 3, 1) := by decide +kernel
theorem dX6_take_43 : decode cX6_take 43 = .ok (.iconst 1, 1) := by decide +kernel
theorem dX6_take_44 : decode cX6_take 44 = .ok (.isub, 1) := by decide +kernel
theorem dX6_take_45 : decode cX6_take 45 = .ok (.aload_n 0, 1) := by decide +kernel
theorem dX6_take_46 : decode cX6_take 46 = .ok (.getfield 13, 3) := by decide +kernel
theorem dX6_take_49 : decode cX6_take 49 = .ok (.iload_n 3, 1) := by decide +kernel
theorem dX6_take_50 : decode cX6_take 50 = .ok (.iaload, 1) := by decide +kernel
theorem dX6_take_51 : decode cX6_take 51 = .ok (.iastore, 1) := by decide +kernel
theorem dX6_take_52 : decode cX6_take 52 = .ok (.aload_n 0, 1) := by decide +kernel
theorem dX6_take_53 : decode cX6_take 53 = .ok (.getfield 16, 3) := by decide +kernel
theorem dX6_take_56 : decode cX6_take 56 = .ok (.iload_n 3, 1) := by decide +kernel
theorem dX6_take_57 : decode cX6_take 57 = .ok (.iconst 1, 1) := by decide +kernel
theorem dX6_take_58 : decode cX6_take 58 = .ok (.isub, 1) := by decide +kernel
theorem dX6_take_59 : decode cX6_take 59 = .ok (.aload_n 0, 1) := by decide +kernel
theorem dX6_take_60 : decode cX6_take 60 = .ok (.getfield 16, 3) := by decide +kernel
theorem dX6_take_63 : decode cX6_take 63 = .ok (.iload_n 3, 1) := by decide +kernel
theorem dX6_take_64 : decode cX6_take 64 = .ok (.iaload, 1) := by decide +kernel
theorem dX6_take_65 : decode cX6_take 65 = .ok (.iastore, 1) := by decide +kernel
theorem dX6_take_66 : decode cX6_take 66 = .ok (.aload_n 0, 1) := by decide +kernel
theorem dX6_take_67 : decode cX6_take 67 = .ok (.getfield 19, 3) := by decide +kernel
theorem dX6_take_70 : decode cX6_take 70 = .ok (.iload_n 3, 1) := by decide +kernel
theorem dX6_take_71 : decode cX6_take 71 = .ok (.iconst 1, 1) := by decide +kernel
theorem dX6_take_72 : decode cX6_take 72 = .ok (.isub, 1) := by decide +kernel
theorem dX6_take_73 : decode cX6_take 73 = .ok (.aload_n 0, 1) := by decide +kernel
theorem dX6_take_74 : decode cX6_take 74 = .ok (.getfield 19, 3) := by decide +kernel
theorem dX6_take_77 : decode cX6_take 77 = .ok (.iload_n 3, 1) := by decide +kernel
theorem dX6_take_78 : decode cX6_take 78 = .ok (.iaload, 1) := by decide +kernel
theorem dX6_take_79 : decode cX6_take 79 = .ok (.iastore, 1) := by decide +kernel
theorem dX6_take_80 : decode cX6_take 80 = .ok (.iinc 3 1, 3) := by decide +kernel
theorem dX6_take_83 : decode cX6_take 83 = .ok (.goto (-67), 3) := by decide +kernel
theorem dX6_take_86 : decode cX6_take 86 = .ok (.aload_n 0, 1) := by decide +kernel
theorem dX6_take_87 : decode cX6_take 87 = .ok (.dup, 1) := by decide +kernel
theorem dX6_take_88 : decode cX6_take 88 = .ok (.getfield 94, 3) := by decide +kernel
theorem dX6_take_91 : decode cX6_take 91 = .ok (.iconst 1, 1) := by decide +kernel
theorem dX6_take_92 : decode cX6_take 92 = .ok (.isub, 1) := by decide +kernel
theorem dX6_take_93 : decode cX6_take 93 = .ok (.putfield 94, 3) := by decide +kernel
theorem dX6_take_96 : decode cX6_take 96 = .ok (.iload_n 2, 1) := by decide +kernel
theorem dX6_take_97 : decode cX6_take 97 = .ok (.ireturn, 1) := by decide +kernel
set_option maxRecDepth 20000 in
theorem ggX6_move_X6_needPiece : GoodIn wsX6_move wsX6_needPiece := goodIn_ca (goodIn_r _ [8, 9, 10, 11, 12, 13, 7, 14, 15, 23, 24, 25, 26, 27, 28, 29, 30, 31, 32, 33, 34, 35, 36, 37] rfl (by decide +kernel)) (goodIn_sub (fun _ h => List.mem_cons_of_mem _ (List.mem_append_right _ h)) (by decide +kernel))
set_option maxRecDepth 20000 in
theorem gX6_move_X6_needPiece : GoodIn wsX6_move (wsV RX6 91 RX6 yX6_needPiece wsX6_needPiece) := goodIn_app (goodIn_of _ (by decide +kernel)) ggX6_move_X6_needPiece
set_option maxRecDepth 20000 in
theorem ggX6_move_X6_needPlace : GoodIn wsX6_move wsX6_needPlace := goodIn_ca (goodIn_r _ [18, 9, 10] rfl (by decide +kernel)) (goodIn_sub (fun _ h => List.mem_cons_of_mem _ (List.mem_append_right _ h)) (by decide +kernel))
set_option maxRecDepth 20000 in
theorem gX6_move_X6_needPlace : GoodIn wsX6_move (va_wsS RX6 71 yX6_needPlace wsX6_needPlace) := goodIn_app (goodIn_of _ (by decide +kernel)) ggX6_move_X6_needPlace
set_option maxRecDepth 20000 in
theorem ggX6_move_X6_isTakenByOther : GoodIn wsX6_move wsX6_isTakenByOther := goodIn_r _ [22, 15, 3, 23, 24, 25, 26, 27, 28, 29, 30, 31, 32, 33, 34, 35, 36, 37] rfl (by decide +kernel)
set_option maxRecDepth 20000 in
theorem gX6_move_X6_isTakenByOther : GoodIn wsX6_move (wsV RX6 97 RX6 yX6_isTakenByOther wsX6_isTakenByOther) := goodIn_app (goodIn_of _ (by decide +kernel)) ggX6_move_X6_isTakenByOther
theorem dX6_move_0 : decode cX6_move 0 = .ok (.aload_n 0, 1) := by decide +kernel
theorem dX6_move_1 : decode cX6_move 1 = .ok (.iload_n 1, 1) := by decide +kernel
theorem dX6_move_2 : decode cX6_move 2 = .ok (.invokevirtual 91, 3) := by decide +kernel
theorem dX6_move_5 : decode cX6_move 5 = .ok (.iload_n 2, 1) := by decide +kernel
theorem dX6_move_6 : decode cX6_move 6 = .ok (.invokestatic 71, 3) := by decide +kernel
theorem dX6_move_9 : decode cX6_move 9 = .ok (.aload_n 0, 1) := by decide +kernel
theorem dX6_move_10 : decode cX6_move 10 = .ok (.iload_n 2, 1) := by decide +kernel
theorem dX6_move_11 : decode cX6_move 11 = .ok (.iload_n 1, 1) := by decide +kernel
theorem dX6_move_12 : decode cX6_move 12 = .ok (.invokevirtual 97, 3) := by decide +kernel
theorem dX6_move_15 : decode cX6_move 15 = .ok (.ifCond .eq 13, 3) := by decide +kernel
theorem dX6_move_18 : decode cX6_move 18 = .ok (.new 101, 3) := by decide +kernel
theorem dX6_move_21 : decode cX6_move 21 = .ok (.dup, 1) := by decide +kernel
theorem dX6_move_22 : decode cX6_move 22 = .ok (.ldc 103, 2) := by decide +kernel
theorem dX6_move_24 : decode cX6_move 24 = .ok (.invokespecial 105, 3) := by decide +kernel
theorem dX6_move_27 : decode cX6_move 27 = .ok (.athrow, 1) := by decide +kernel
theorem dX6_move_28 : decode cX6_move 28 = .ok (.aload_n 0, 1) := by decide +kernel
theorem dX6_move_29 : decode cX6_move 29 = .ok (.getfield 9, 3) := by decide +kernel
theorem dX6_move_32 : decode cX6_move 32 = .ok (.iload_n 1, 1) := by decide +kernel
theorem dX6_move_33 : decode cX6_move 33 = .ok (.iaload, 1) := by decide +kernel
theorem dX6_move_34 : decode cX6_move 34 = .ok (.istore_n 3, 1) := by decide +kernel
theorem dX6_move_35 : decode cX6_move 35 = .ok (.aload_n 0, 1) := by decide +kernel
theorem dX6_move_36 : decode cX6_move 36 = .ok (.getfield 9, 3) := by decide +kernel
theorem dX6_move_39 : decode cX6_move 39 = .ok (.iload_n 1, 1) := by decide +kernel
theorem dX6_move_40 : decode cX6_move 40 = .ok (.iload_n 2, 1) := by decide +kernel
theorem dX6_move_41 : decode cX6_move 41 = .ok (.iastore, 1) := by decide +kernel
theorem dX6_move_42 : decode cX6_move 42 = .ok (.iload_n 3, 1) := by decide +kernel
theorem dX6_move_43 : decode cX6_move 43 = .ok (.ireturn, 1) := by decide +kernel
set_option maxRecDepth 20000 in
theorem ggX6_half_X6_needPiece : GoodIn wsX6_half wsX6_needPiece := goodIn_ca (goodIn_r _ [6, 7, 8, 9, 10, 11, 5, 12, 13, 19, 20, 21, 22, 23, 24, 25, 26, 27, 28, 29, 30, 31, 32, 33] rfl (by decide +kernel)) (goodIn_sub (fun _ h => List.mem_cons_of_mem _ (List.mem_append_left _ (List.mem_append_right _ h))) (by decide +kernel))
set_option maxRecDepth 20000 in
theorem gX6_half_X6_needPiece : GoodIn wsX6_half (wsV RX6 91 RX6 yX6_needPiece wsX6_needPiece) := goodIn_app (goodIn_of _ (by decide +kernel)) ggX6_half_X6_needPiece
set_option maxRecDepth 20000 in
theorem ggX6_half_X6_needHalf : GoodIn wsX6_half wsX6_needHalf := goodIn_ca (goodIn_r _ [16, 17, 18] rfl (by decide +kernel)) (goodIn_sub (fun _ h => List.mem_cons_of_mem _ (List.mem_append_right _ h)) (by decide +kernel))
set_option maxRecDepth 20000 in
theorem gX6_half_X6_needHalf : GoodIn wsX6_half (va_wsS RX6 75 yX6_needHalf wsX6_needHalf) := goodIn_app (goodIn_of _ (by decide +kernel)) ggX6_half_X6_needHalf
theorem dX6_half_0 : decode cX6_half 0 = .ok (.aload_n 0, 1) := by decide +kernel
theorem dX6_half_1 : decode cX6_half 1 = .ok (.iload_n 1, 1) := by decide +kernel
theorem dX6_half_2 : decode cX6_half 2 = .ok (.invokevirtual 91, 3) := by decide +kernel
theorem dX6_half_5 : decode cX6_half 5 = .ok (.iload_n 2, 1) := by decide +kernel
theorem dX6_half_6 : decode cX6_half 6 = .ok (.invokestatic 75, 3) := by decide +kernel
theorem dX6_half_9 : decode cX6_half 9 = .ok (.aload_n 0, 1) := by decide +kernel
theorem dX6_half_10 : decode cX6_half 10 = .ok (.getfield 13, 3) := by decide +kernel
theorem dX6_half_13 : decode cX6_half 13 = .ok (.iload_n 1, 1) := by decide +kernel
theorem dX6_half_14 : decode cX6_half 14 = .ok (.iaload, 1) := by decide +kernel
theorem dX6_half_15 : decode cX6_half 15 = .ok (.istore_n 3, 1) := by decide +kernel
theorem dX6_half_16 : decode cX6_half 16 = .ok (.aload_n 0, 1) := by decide +kernel
theorem dX6_half_17 : decode cX6_half 17 = .ok (.getfield 13, 3) := by decide +kernel
theorem dX6_half_20 : decode cX6_half 20 = .ok (.iload_n 1, 1) := by decide +kernel
theorem dX6_half_21 : decode cX6_half 21 = .ok (.iload_n 2, 1) := by decide +kernel
theorem dX6_half_22 : decode cX6_half 22 = .ok (.iastore, 1) := by decide +kernel
theorem dX6_half_23 : decode cX6_half 23 = .ok (.iload_n 3, 1) := by decide +kernel
theorem dX6_half_24 : decode cX6_half 24 = .ok (.ireturn, 1) := by decide +kernel
set_option maxRecDepth 20000 in
theorem ggX6_swap_X6_needPiece : GoodIn wsX6_swap wsX6_needPiece := goodIn_ca (goodIn_r _ [6, 7, 8, 9, 10, 11, 5, 12, 13, 14, 15, 16, 17, 18, 19, 20, 21, 22, 23, 24, 25, 26, 27, 28] rfl (by decide +kernel)) (goodIn_sub (fun _ h => List.mem_cons_of_mem _ (List.mem_append_right _ h)) (by decide +kernel))
set_option maxRecDepth 20000 in
theorem gX6_swap_X6_needPiece : GoodIn wsX6_swap (wsV RX6 91 RX6 yX6_needPiece wsX6_needPiece) := goodIn_app (goodIn_of _ (by decide +kernel)) ggX6_swap_X6_needPiece
theorem dX6_swap_0 : decode cX6_swap 0 = .ok (.aload_n 0, 1) := by decide +kernel
theorem dX6_swap_1 : decode cX6_swap 1 = .ok (.iload_n 1, 1) := by decide +kernel
theorem dX6_swap_2 : decode cX6_swap 2 = .ok (.invokevirtual 91, 3) := by decide +kernel
theorem dX6_swap_5 : decode cX6_swap 5 = .ok (.aload_n 0, 1) := by decide +kernel
theorem dX6_swap_6 : decode cX6_swap 6 = .ok (.iload_n 2, 1) := by decide +kernel
theorem dX6_swap_7 : decode cX6_swap 7 = .ok (.invokevirtual 91, 3) := by decide +kernel
theorem dX6_swap_10 : decode cX6_swap 10 = .ok (.aload_n 0, 1) := by decide +kernel
theorem dX6_swap_11 : decode cX6_swap 11 = .ok (.getfield 9, 3) := by decide +kernel
theorem dX6_swap_14 : decode cX6_swap 14 = .ok (.iload_n 1, 1) := by decide +kernel
theorem dX6_swap_15 : decode cX6_swap 15 = .ok (.iaload, 1) := by decide +kernel
theorem dX6_swap_16 : decode cX6_swap 16 = .ok (.istore_n 3, 1) := by decide +kernel
theorem dX6_swap_17 : decode cX6_swap 17 = .ok (.aload_n 0, 1) := by decide +kernel
theorem dX6_swap_18 : decode cX6_swap 18 = .ok (.getfield 9, 3) := by decide +kernel
theorem dX6_swap_21 : decode cX6_swap 21 = .ok (.iload_n 1, 1) := by decide +kernel
theorem dX6_swap_22 : decode cX6_swap 22 = .ok (.aload_n 0, 1) := by decide +kernel
theorem dX6_swap_23 : decode cX6_swap 23 = .ok (.getfield 9, 3) := by decide +kernel
theorem dX6_swap_26 : decode cX6_swap 26 = .ok (.iload_n 2, 1) := by decide +kernel
theorem dX6_swap_27 : decode cX6_swap 27 = .ok (.iaload, 1) := by decide +kernel
theorem dX6_swap_28 : decode cX6_swap 28 = .ok (.iastore, 1) := by decide +kernel
theorem dX6_swap_29 : decode cX6_swap 29 = .ok (.aload_n 0, 1) := by decide +kernel
theorem dX6_swap_30 : decode cX6_swap 30 = .ok (.getfield 9, 3) := by decide +kernel
theorem dX6_swap_33 : decode cX6_swap 33 = .ok (.iload_n 2, 1) := by decide +kernel
theorem dX6_swap_34 : decode cX6_swap 34 = .ok (.iload_n 3, 1) := by decide +kernel
theorem dX6_swap_35 : decode cX6_swap 35 = .ok (.iastore, 1) := by decide +kernel
theorem dX6_swap_36 : decode cX6_swap 36 = .ok (.aload_n 0, 1) := by decide +kernel
theorem dX6_swap_37 : decode cX6_swap 37 = .ok (.getfield 9, 3) := by decide +kernel
theorem dX6_swap_40 : decode cX6_swap 40 = .ok (.iload_n 1, 1) := by decide +kernel
theorem dX6_swap_41 : decode cX6_swap 41 = .ok (.iaload, 1) := by decide +kernel
theorem dX6_swap_42 : decode cX6_swap 42 = .ok (.ireturn, 1) := by decide +kernel
set_option maxRecDepth 20000 in
theorem ggX6_thing_X6_needPlace : GoodIn wsX6_thing wsX6_needPlace := goodIn_ca (goodIn_r _ [8, 9, 10] rfl (by decide +kernel)) (goodIn_sub (fun _ h => List.mem_cons_of_mem _ (List.mem_append_right _ h)) (by decide +kernel))
set_option maxRecDepth 20000 in
theorem gX6_thing_X6_needPlace : GoodIn wsX6_thing (va_wsS RX6 71 yX6_needPlace wsX6_needPlace) := goodIn_app (goodIn_of _ (by decide +kernel)) ggX6_thing_X6_needPlace
theorem dX6_thing_0 : decode cX6_thing 0 = .ok (.iload_n 1, 1) := by decide +kernel
theorem dX6_thing_1 : decode cX6_thing 1 = .ok (.invokestatic 71, 3) := by decide +kernel
theorem dX6_thing_4 : decode cX6_thing 4 = .ok (.iload_n 1, 1) := by decide +kernel
theorem dX6_thing_5 : decode cX6_thing 5 = .ok (.aload_n 0, 1) := by decide +kernel
theorem dX6_thing_6 : decode cX6_thing 6 = .ok (.getfield 22, 3) := by decide +kernel
theorem dX6_thing_9 : decode cX6_thing 9 = .ok (.if_icmp .lt 13, 3) := by decide +kernel
theorem dX6_thing_12 : decode cX6_thing 12 = .ok (.new 101, 3) := by decide +kernel
theorem dX6_thing_15 : decode cX6_thing 15 = .ok (.dup, 1) := by decide +kernel
theorem dX6_thing_16 : decode cX6_thing 16 = .ok (.ldc 106, 2) := by decide +kernel
theorem dX6_thing_18 : decode cX6_thing 18 = .ok (.invokespecial 105, 3) := by decide +kernel
theorem dX6_thing_21 : decode cX6_thing 21 = .ok (.athrow, 1) := by decide +kernel
theorem dX6_thing_22 : decode cX6_thing 22 = .ok (.aload_n 0, 1) := by decide +kernel
theorem dX6_thing_23 : decode cX6_thing 23 = .ok (.getfield 108, 3) := by decide +kernel
theorem dX6_thing_26 : decode cX6_thing 26 = .ok (.istore_n 2, 1) := by decide +kernel
theorem dX6_thing_27 : decode cX6_thing 27 = .ok (.aload_n 0, 1) := by decide +kernel
theorem dX6_thing_28 : decode cX6_thing 28 = .ok (.iload_n 1, 1) := by decide +kernel
theorem dX6_thing_29 : decode cX6_thing 29 = .ok (.putfield 108, 3) := by decide +kernel
theorem dX6_thing_32 : decode cX6_thing 32 = .ok (.iload_n 2, 1) := by decide +kernel
theorem dX6_thing_33 : decode cX6_thing 33 = .ok (.ireturn, 1) := by decide +kernel
set_option maxRecDepth 20000 in
theorem ggX6_screen_X6_needPlace : GoodIn wsX6_screen wsX6_needPlace := goodIn_ca (goodIn_r _ [8, 9, 10] rfl (by decide +kernel)) (goodIn_sub (fun _ h => List.mem_cons_of_mem _ (List.mem_append_right _ h)) (by decide +kernel))
set_option maxRecDepth 20000 in
theorem gX6_screen_X6_needPlace : GoodIn wsX6_screen (va_wsS RX6 71 yX6_needPlace wsX6_needPlace) := goodIn_app (goodIn_of _ (by decide +kernel)) ggX6_screen_X6_needPlace
theorem dX6_screen_0 : decode cX6_screen 0 = .ok (.iload_n 1, 1) := by decide +kernel
theorem dX6_screen_1 : decode cX6_screen 1 = .ok (.invokestatic 71, 3) := by decide +kernel
theorem dX6_screen_4 : decode cX6_screen 4 = .ok (.iload_n 1, 1) := by decide +kernel
theorem dX6_screen_5 : decode cX6_screen 5 = .ok (.aload_n 0, 1) := by decide +kernel
theorem dX6_screen_6 : decode cX6_screen 6 = .ok (.getfield 108, 3) := by decide +kernel
theorem dX6_screen_9 : decode cX6_screen 9 = .ok (.if_icmp .gt 13, 3) := by decide +kernel
theorem dX6_screen_12 : decode cX6_screen 12 = .ok (.new 101, 3) := by decide +kernel
theorem dX6_screen_15 : decode cX6_screen 15 = .ok (.dup, 1) := by decide +kernel
theorem dX6_screen_16 : decode cX6_screen 16 = .ok (.ldc 106, 2) := by decide +kernel
theorem dX6_screen_18 : decode cX6_screen 18 = .ok (.invokespecial 105, 3) := by decide +kernel
theorem dX6_screen_21 : decode cX6_screen 21 = .ok (.athrow, 1) := by decide +kernel
theorem dX6_screen_22 : decode cX6_screen 22 = .ok (.aload_n 0, 1) := by decide +kernel
theorem dX6_screen_23 : decode cX6_screen 23 = .ok (.getfield 22, 3) := by decide +kernel
theorem dX6_screen_26 : decode cX6_screen 26 = .ok (.istore_n 2, 1) := by decide +kernel
theorem dX6_screen_27 : decode cX6_screen 27 = .ok (.aload_n 0, 1) := by decide +kernel
theorem dX6_screen_28 : decode cX6_screen 28 = .ok (.iload_n 1, 1) := by decide +kernel
theorem dX6_screen_29 : decode cX6_screen 29 = .ok (.putfield 22, 3) := by decide +kernel
theorem dX6_screen_32 : decode cX6_screen 32 = .ok (.iload_n 2, 1) := by decide +kernel
theorem dX6_screen_33 : decode cX6_screen 33 = .ok (.ireturn, 1) := by decide +kernel
theorem dX6_tall_0 : decode cX6_tall 0 = .ok (.iload_n 1, 1) := by decide +kernel
theorem dX6_tall_1 : decode cX6_tall 1 = .ok (.ifCond .lt 9, 3) := by decide +kernel
theorem dX6_tall_4 : decode cX6_tall 4 = .ok (.iload_n 1, 1) := by decide +kernel
theorem dX6_tall_5 : decode cX6_tall 5 = .ok (.bipush 80, 2) := by decide +kernel
theorem dX6_tall_7 : decode cX6_tall 7 = .ok (.if_icmp .le 13, 3) := by decide +kernel
theorem dX6_tall_10 : decode cX6_tall 10 = .ok (.new 78, 3) := by decide +kernel
theorem dX6_tall_13 : decode cX6_tall 13 = .ok (.dup, 1) := by decide +kernel
theorem dX6_tall_14 : decode cX6_tall 14 = .ok (.ldc 111, 2) := by decide +kernel
theorem dX6_tall_16 : decode cX6_tall 16 = .ok (.invokespecial 82, 3) := by decide +kernel
theorem dX6_tall_19 : decode cX6_tall 19 = .ok (.athrow, 1) := by decide +kernel
theorem dX6_tall_20 : decode cX6_tall 20 = .ok (.aload_n 0, 1) := by decide +kernel
theorem dX6_tall_21 : decode cX6_tall 21 = .ok (.getfield 26, 3) := by decide +kernel
theorem dX6_tall_24 : decode cX6_tall 24 = .ok (.istore_n 2, 1) := by decide +kernel
theorem dX6_tall_25 : decode cX6_tall 25 = .ok (.aload_n 0, 1) := by decide +kernel
theorem dX6_tall_26 : decode cX6_tall 26 = .ok (.iload_n 1, 1) := by decide +kernel
theorem dX6_tall_27 : decode cX6_tall 27 = .ok (.putfield 26, 3) := by decide +kernel
theorem dX6_tall_30 : decode cX6_tall 30 = .ok (.iload_n 2, 1) := by decide +kernel
theorem dX6_tall_31 : decode cX6_tall 31 = .ok (.ireturn, 1) := by decide +kernel
theorem dX6_rattle_0 : decode cX6_rattle 0 = .ok (.aload_n 0, 1) := by decide +kernel
theorem dX6_rattle_1 : decode cX6_rattle 1 = .ok (.dup, 1) := by decide +kernel
theorem dX6_rattle_2 : decode cX6_rattle 2 = .ok (.getfield 113, 3) := by decide +kernel
theorem dX6_rattle_5 : decode cX6_rattle 5 = .ok (.iconst 1, 1) := by decide +kernel
theorem dX6_rattle_6 : decode cX6_rattle 6 = .ok (.iadd, 1) := by decide +kernel
theorem dX6_rattle_7 : decode cX6_rattle 7 = .ok (.putfield 113, 3) := by decide +kernel
theorem dX6_rattle_10 : decode cX6_rattle 10 = .ok (.aload_n 0, 1) := by decide +kernel
theorem dX6_rattle_11 : decode cX6_rattle 11 = .ok (.getfield 113, 3) := by decide +kernel
theorem dX6_rattle_14 : decode cX6_rattle 14 = .ok (.ireturn, 1) := by decide +kernel
set_option maxRecDepth 20000 in
theorem ggX6_ofPiece_X6_needPiece : GoodIn wsX6_ofPiece wsX6_needPiece := goodIn_ca (goodIn_r _ [10, 11, 12, 13, 14, 15, 9, 16, 17, 59, 60, 61, 62, 63, 64, 65, 66, 67, 68, 69, 70, 71, 72, 73] rfl (by decide +kernel)) (goodIn_sub (fun _ h => List.mem_cons_of_mem _ (List.mem_append_left _ (List.mem_append_right _ h))) (by decide +kernel))
set_option maxRecDepth 20000 in
theorem gX6_ofPiece_X6_needPiece : GoodIn wsX6_ofPiece (wsV RX6 91 RX6 yX6_needPiece wsX6_needPiece) := goodIn_app (goodIn_of _ (by decide +kernel)) ggX6_ofPiece_X6_needPiece
set_option maxRecDepth 20000 in
theorem ggX6_ofPiece_X6_needWhat : GoodIn wsX6_ofPiece wsX6_needWhat := goodIn_ca (goodIn_r _ [20, 21, 22] rfl (by decide +kernel)) (goodIn_sub (fun _ h => List.mem_cons_of_mem _ (List.mem_append_right _ h)) (by decide +kernel))
set_option maxRecDepth 20000 in
theorem gX6_ofPiece_X6_needWhat : GoodIn wsX6_ofPiece (va_wsS RX6 116 yX6_needWhat wsX6_needWhat) := goodIn_app (goodIn_of _ (by decide +kernel)) ggX6_ofPiece_X6_needWhat
set_option maxRecDepth 20000 in
theorem ggX6_ofPiece_X6_lineUp : GoodIn wsX6_ofPiece wsX6_lineUp := goodIn_r _ [26, 27, 28, 29, 30, 9, 31, 5, 32, 17, 1, 2, 3, 4, 33, 34, 35, 36, 37, 38, 39, 40, 41, 42, 43, 44, 45, 46, 47, 48, 49, 50, 51, 52, 53, 54, 59, 60, 61, 62, 63, 64, 65, 66, 67, 68, 69, 70, 71, 72, 73, 74, 75, 76, 77, 78, 79, 80] rfl (by decide +kernel)
set_option maxRecDepth 20000 in
theorem gX6_ofPiece_X6_lineUp : GoodIn wsX6_ofPiece (wsV RX6 120 RX6 yX6_lineUp wsX6_lineUp) := goodIn_app (goodIn_of _ (by decide +kernel)) ggX6_ofPiece_X6_lineUp
set_option maxRecDepth 20000 in
theorem ggX6_ofPiece_X5_positionOf : GoodIn wsX6_ofPiece wsX5_positionOf := goodIn_r _ [58, 38, 52, 74, 75, 76, 77, 78, 79, 80] rfl (by decide +kernel)
set_option maxRecDepth 20000 in
theorem gX6_ofPiece_X5_positionOf : GoodIn wsX6_ofPiece (wsV RX6 123 RX5 yX5_positionOf wsX5_positionOf) := goodIn_app (goodIn_of _ (by decide +kernel)) ggX6_ofPiece_X5_positionOf
theorem dX6_ofPiece_0 : decode cX6_ofPiece 0 = .ok (.aload_n 0, 1) := by decide +kernel
theorem dX6_ofPiece_1 : decode cX6_ofPiece 1 = .ok (.iload_n 1, 1) := by decide +kernel
theorem dX6_ofPiece_2 : decode cX6_ofPiece 2 = .ok (.invokevirtual 91, 3) := by decide +kernel
theorem dX6_ofPiece_5 : decode cX6_ofPiece 5 = .ok (.iload_n 2, 1) := by decide +kernel
theorem dX6_ofPiece_6 : decode cX6_ofPiece 6 = .ok (.iconst 4, 1) := by decide +kernel
theorem dX6_ofPiece_7 : decode cX6_ofPiece 7 = .ok (.invokestatic 116, 3) := by decide +kernel
theorem dX6_ofPiece_10 : decode cX6_ofPiece 10 = .ok (.iload_n 2, 1) := by decide +kernel
theorem dX6_ofPiece_11 : decode cX6_ofPiece 11 = .ok (.tableswitch 57 0 3 #[29, 36, 43, 50], 29) := by decide +kernel
theorem dX6_ofPiece_40 : decode cX6_ofPiece 40 = .ok (.aload_n 0, 1) := by decide +kernel
theorem dX6_ofPiece_41 : decode cX6_ofPiece 41 = .ok (.getfield 9, 3) := by decide +kernel
theorem dX6_ofPiece_44 : decode cX6_ofPiece 44 = .ok (.iload_n 1, 1) := by decide +kernel
theorem dX6_ofPiece_45 : decode cX6_ofPiece 45 = .ok (.iaload, 1) := by decide +kernel
theorem dX6_ofPiece_46 : decode cX6_ofPiece 46 = .ok (.ireturn, 1) := by decide +kernel
theorem dX6_ofPiece_47 : decode cX6_ofPiece 47 = .ok (.aload_n 0, 1) := by decide +kernel
theorem dX6_ofPiece_48 : decode cX6_ofPiece 48 = .ok (.getfield 13, 3) := by decide +kernel
theorem dX6_ofPiece_51 : decode cX6_ofPiece 51 = .ok (.iload_n 1, 1) := by decide +kernel
theorem dX6_ofPiece_52 : decode cX6_ofPiece 52 = .ok (.iaload, 1) := by decide +kernel
theorem dX6_ofPiece_53 : decode cX6_ofPiece 53 = .ok (.ireturn, 1) := by decide +kernel
theorem dX6_ofPiece_54 : decode cX6_ofPiece 54 = .ok (.aload_n 0, 1) := by decide +kernel
theorem dX6_ofPiece_55 : decode cX6_ofPiece 55 = .ok (.getfield 16, 3) := by decide +kernel
theorem dX6_ofPiece_58 : decode cX6_ofPiece 58 = .ok (.iload_n 1, 1) := by decide +kernel
theorem dX6_ofPiece_59 : decode cX6_ofPiece 59 = .ok (.iaload, 1) := by decide +kernel
theorem dX6_ofPiece_60 : decode cX6_ofPiece 60 = .ok (.ireturn, 1) := by decide +kernel
theorem dX6_ofPiece_61 : decode cX6_ofPiece 61 = .ok (.aload_n 0, 1) := by decide +kernel
theorem dX6_ofPiece_62 : decode cX6_ofPiece 62 = .ok (.getfield 19, 3) := by decide +kernel
theorem dX6_ofPiece_65 : decode cX6_ofPiece 65 = .ok (.iload_n 1, 1) := by decide +kernel
theorem dX6_ofPiece_66 : decode cX6_ofPiece 66 = .ok (.iaload, 1) := by decide +kernel
theorem dX6_ofPiece_67 : decode cX6_ofPiece 67 = .ok (.ireturn, 1) := by decide +kernel
theorem dX6_ofPiece_68 : decode cX6_ofPiece 68 = .ok (.aload_n 0, 1) := by decide +kernel
theorem dX6_ofPiece_69 : decode cX6_ofPiece 69 = .ok (.iconst 1, 1) := by decide +kernel
theorem dX6_ofPiece_70 : decode cX6_ofPiece 70 = .ok (.invokevirtual 120, 3) := by decide +kernel
theorem dX6_ofPiece_73 : decode cX6_ofPiece 73 = .ok (.aload_n 0, 1) := by decide +kernel
theorem dX6_ofPiece_74 : decode cX6_ofPiece 74 = .ok (.getfield 32, 3) := by decide +kernel
theorem dX6_ofPiece_77 : decode cX6_ofPiece 77 = .ok (.iload_n 1, 1) := by decide +kernel
theorem dX6_ofPiece_78 : decode cX6_ofPiece 78 = .ok (.invokevirtual 123, 3) := by decide +kernel
theorem dX6_ofPiece_81 : decode cX6_ofPiece 81 = .ok (.ireturn, 1) := by decide +kernel
set_option maxRecDepth 20000 in
theorem ggX6_strength_X6_needPiece : GoodIn wsX6_strength wsX6_needPiece := goodIn_ca (goodIn_r _ [7, 8, 9, 10, 11, 12, 6, 13, 14, 29, 30, 31, 32, 33, 34, 35, 36, 37, 38, 39, 40, 41, 42, 43] rfl (by decide +kernel)) (goodIn_sub (fun _ h => List.mem_cons_of_mem _ (List.mem_append_left _ (List.mem_append_right _ h))) (by decide +kernel))
set_option maxRecDepth 20000 in
theorem gX6_strength_X6_needPiece : GoodIn wsX6_strength (wsV RX6 91 RX6 yX6_needPiece wsX6_needPiece) := goodIn_app (goodIn_of _ (by decide +kernel)) ggX6_strength_X6_needPiece
set_option maxRecDepth 20000 in
theorem ggX6_strength_X6_needColour : GoodIn wsX6_strength wsX6_needColour := goodIn_ca (goodIn_r _ [17, 18, 19] rfl (by decide +kernel)) (goodIn_sub (fun _ h => List.mem_cons_of_mem _ (List.mem_append_right _ h)) (by decide +kernel))
set_option maxRecDepth 20000 in
theorem gX6_strength_X6_needColour : GoodIn wsX6_strength (va_wsS RX6 127 yX6_needColour wsX6_needColour) := goodIn_app (goodIn_of _ (by decide +kernel)) ggX6_strength_X6_needColour
set_option maxRecDepth 20000 in
theorem ggX6_strength_X6_bendOf : GoodIn wsX6_strength wsX6_bendOf := goodIn_r _ [22, 23, 24, 25] rfl (by decide +kernel)
set_option maxRecDepth 20000 in
theorem gX6_strength_X6_bendOf : GoodIn wsX6_strength (va_wsS RX6 130 yX6_bendOf wsX6_bendOf) := goodIn_app (goodIn_of _ (by decide +kernel)) ggX6_strength_X6_bendOf
set_option maxRecDepth 20000 in
theorem ggX6_strength_X6_plain : GoodIn wsX6_strength wsX6_plain := goodIn_r _ [28] rfl (by decide +kernel)
set_option maxRecDepth 20000 in
theorem gX6_strength_X6_plain : GoodIn wsX6_strength (va_wsS RX6 134 yX6_plain wsX6_plain) := goodIn_app (goodIn_of _ (by decide +kernel)) ggX6_strength_X6_plain
theorem dX6_strength_0 : decode cX6_strength 0 = .ok (.aload_n 0, 1) := by decide +kernel
theorem dX6_strength_1 : decode cX6_strength 1 = .ok (.iload_n 1, 1) := by decide +kernel
theorem dX6_strength_2 : decode cX6_strength 2 = .ok (.invokevirtual 91, 3) := by decide +kernel
theorem dX6_strength_5 : decode cX6_strength 5 = .ok (.iload_n 2, 1) := by decide +kernel
theorem dX6_strength_6 : decode cX6_strength 6 = .ok (.invokestatic 127, 3) := by decide +kernel
theorem dX6_strength_9 : decode cX6_strength 9 = .ok (.aload_n 0, 1) := by decide +kernel
theorem dX6_strength_10 : decode cX6_strength 10 = .ok (.getfield 16, 3) := by decide +kernel
theorem dX6_strength_13 : decode cX6_strength 13 = .ok (.iload_n 1, 1) := by decide +kernel
theorem dX6_strength_14 : decode cX6_strength 14 = .ok (.iaload, 1) := by decide +kernel
theorem dX6_strength_15 : decode cX6_strength 15 = .ok (.aload_n 0, 1) := by decide +kernel
theorem dX6_strength_16 : decode cX6_strength 16 = .ok (.getfield 19, 3) := by decide +kernel
theorem dX6_strength_19 : decode cX6_strength 19 = .ok (.iload_n 1, 1) := by decide +kernel
theorem dX6_strength_20 : decode cX6_strength 20 = .ok (.iaload, 1) := by decide +kernel
theorem dX6_strength_21 : decode cX6_strength 21 = .ok (.iload_n 2, 1) := by decide +kernel
theorem dX6_strength_22 : decode cX6_strength 22 = .ok (.invokestatic 130, 3) := by decide +kernel
theorem dX6_strength_25 : decode cX6_strength 25 = .ok (.invokestatic 134, 3) := by decide +kernel
theorem dX6_strength_28 : decode cX6_strength 28 = .ok (.dreturn, 1) := by decide +kernel
set_option maxRecDepth 20000 in
theorem ggX6_ray_X6_needColour : GoodIn wsX6_ray wsX6_needColour := goodIn_ca (goodIn_r _ [13, 1, 2] rfl (by decide +kernel)) (goodIn_sub (fun _ h => List.mem_cons_of_mem _ (List.mem_append_right _ h)) (by decide +kernel))
set_option maxRecDepth 20000 in
theorem gX6_ray_X6_needColour : GoodIn wsX6_ray (va_wsS RX6 127 yX6_needColour wsX6_needColour) := goodIn_app (goodIn_of _ (by decide +kernel)) ggX6_ray_X6_needColour
set_option maxRecDepth 20000 in
theorem ggX6_ray_X6_needWhat : GoodIn wsX6_ray wsX6_needWhat := goodIn_ca (goodIn_r _ [16, 1, 2] rfl (by decide +kernel)) (goodIn_sub (fun _ h => List.mem_cons_of_mem _ (List.mem_append_right _ h)) (by decide +kernel))
set_option maxRecDepth 20000 in
theorem gX6_ray_X6_needWhat : GoodIn wsX6_ray (va_wsS RX6 116 yX6_needWhat wsX6_needWhat) := goodIn_app (goodIn_of _ (by decide +kernel)) ggX6_ray_X6_needWhat
set_option maxRecDepth 20000 in
theorem ggX6_ray_X6_lineUp : GoodIn wsX6_ray wsX6_lineUp := goodIn_r _ [20, 21, 22, 23, 24, 12, 25, 4, 26, 27, 28, 29, 30, 31, 32, 33, 34, 35, 36, 37, 38, 39, 40, 41, 42, 43, 44, 6, 45, 46, 47, 48, 49, 50, 51, 52, 76, 77, 78, 79, 80, 81, 82, 83, 84, 85, 86, 87, 88, 89, 90, 94, 95, 96, 97, 98, 99, 100] rfl (by decide +kernel)
set_option maxRecDepth 20000 in
theorem gX6_ray_X6_lineUp : GoodIn wsX6_ray (wsV RX6 120 RX6 yX6_lineUp wsX6_lineUp) := goodIn_app (goodIn_of _ (by decide +kernel)) ggX6_ray_X6_lineUp
set_option maxRecDepth 20000 in
theorem ggX6_ray_X3_run : GoodIn wsX6_ray wsX3_run := goodIn_r _ [57, 58, 59, 60, 61, 62, 63, 64, 65, 66, 67, 12, 68, 91, 92, 93, 94, 95, 96, 97, 98, 99, 100] rfl (by decide +kernel)
set_option maxRecDepth 20000 in
theorem gX6_ray_X3_run : GoodIn wsX6_ray (wsV RX6 146 RX3 yX3_run wsX3_run) := goodIn_app (goodIn_of _ (by decide +kernel)) ggX6_ray_X3_run
set_option maxRecDepth 20000 in
theorem ggX6_ray_X6_plain : GoodIn wsX6_ray wsX6_plain := goodIn_r _ [71] rfl (by decide +kernel)
set_option maxRecDepth 20000 in
theorem gX6_ray_X6_plain : GoodIn wsX6_ray (va_wsS RX6 134 yX6_plain wsX6_plain) := goodIn_app (goodIn_of _ (by decide +kernel)) ggX6_ray_X6_plain
set_option maxRecDepth 20000 in
theorem ggX6_ray_X5_numberAt : GoodIn wsX6_ray wsX5_numberAt := goodIn_r _ [75, 37, 50, 94, 95, 96, 97, 98, 99, 100] rfl (by decide +kernel)
set_option maxRecDepth 20000 in
theorem gX6_ray_X5_numberAt : GoodIn wsX6_ray (wsV RX6 160 RX5 yX5_numberAt wsX5_numberAt) := goodIn_app (goodIn_of _ (by decide +kernel)) ggX6_ray_X5_numberAt
theorem dX6_ray_0 : decode cX6_ray 0 = .ok (.iload_n 1, 1) := by decide +kernel
theorem dX6_ray_1 : decode cX6_ray 1 = .ok (.bipush (-80), 2) := by decide +kernel
theorem dX6_ray_3 : decode cX6_ray 3 = .ok (.if_icmp .lt 9, 3) := by decide +kernel
theorem dX6_ray_6 : decode cX6_ray 6 = .ok (.iload_n 1, 1) := by decide +kernel
theorem dX6_ray_7 : decode cX6_ray 7 = .ok (.bipush 80, 2) := by decide +kernel
theorem dX6_ray_9 : decode cX6_ray 9 = .ok (.if_icmp .le 13, 3) := by decide +kernel
theorem dX6_ray_12 : decode cX6_ray 12 = .ok (.new 78, 3) := by decide +kernel
theorem dX6_ray_15 : decode cX6_ray 15 = .ok (.dup, 1) := by decide +kernel
theorem dX6_ray_16 : decode cX6_ray 16 = .ok (.ldc 138, 2) := by decide +kernel
theorem dX6_ray_18 : decode cX6_ray 18 = .ok (.invokespecial 82, 3) := by decide +kernel
theorem dX6_ray_21 : decode cX6_ray 21 = .ok (.athrow, 1) := by decide +kernel
theorem dX6_ray_22 : decode cX6_ray 22 = .ok (.iload_n 2, 1) := by decide +kernel
theorem dX6_ray_23 : decode cX6_ray 23 = .ok (.bipush (-100), 2) := by decide +kernel
theorem dX6_ray_25 : decode cX6_ray 25 = .ok (.if_icmp .lt 9, 3) := by decide +kernel
theorem dX6_ray_28 : decode cX6_ray 28 = .ok (.iload_n 2, 1) := by decide +kernel
theorem dX6_ray_29 : decode cX6_ray 29 = .ok (.bipush 100, 2) := by decide +kernel
theorem dX6_ray_31 : decode cX6_ray 31 = .ok (.if_icmp .le 13, 3) := by decide +kernel
theorem dX6_ray_34 : decode cX6_ray 34 = .ok (.new 78, 3) := by decide +kernel
theorem dX6_ray_37 : decode cX6_ray 37 = .ok (.dup, 1) := by decide +kernel
theorem dX6_ray_38 : decode cX6_ray 38 = .ok (.ldc 140, 2) := by decide +kernel
theorem dX6_ray_40 : decode cX6_ray 40 = .ok (.invokespecial 82, 3) := by decide +kernel
theorem dX6_ray_43 : decode cX6_ray 43 = .ok (.athrow, 1) := by decide +kernel
theorem dX6_ray_44 : decode cX6_ray 44 = .ok (.iload_n 3, 1) := by decide +kernel
theorem dX6_ray_45 : decode cX6_ray 45 = .ok (.invokestatic 127, 3) := by decide +kernel
theorem dX6_ray_48 : decode cX6_ray 48 = .ok (.iload 4, 2) := by decide +kernel
theorem dX6_ray_50 : decode cX6_ray 50 = .ok (.iconst 2, 1) := by decide +kernel
theorem dX6_ray_51 : decode cX6_ray 51 = .ok (.invokestatic 116, 3) := by decide +kernel
theorem dX6_ray_54 : decode cX6_ray 54 = .ok (.aload_n 0, 1) := by decide +kernel
theorem dX6_ray_55 : decode cX6_ray 55 = .ok (.iload_n 3, 1) := by decide +kernel
theorem dX6_ray_56 : decode cX6_ray 56 = .ok (.invokevirtual 120, 3) := by decide +kernel
theorem dX6_ray_59 : decode cX6_ray 59 = .ok (.aload_n 0, 1) := by decide +kernel
theorem dX6_ray_60 : decode cX6_ray 60 = .ok (.getfield 39, 3) := by decide +kernel
theorem dX6_ray_63 : decode cX6_ray 63 = .ok (.aload_n 0, 1) := by decide +kernel
theorem dX6_ray_64 : decode cX6_ray 64 = .ok (.getfield 32, 3) := by decide +kernel
theorem dX6_ray_67 : decode cX6_ray 67 = .ok (.iload_n 1, 1) := by decide +kernel
theorem dX6_ray_68 : decode cX6_ray 68 = .ok (.i2d, 1) := by decide +kernel
theorem dX6_ray_69 : decode cX6_ray 69 = .ok (.ldc2_w 142, 3) := by decide +kernel
theorem dX6_ray_72 : decode cX6_ray 72 = .ok (.ddiv, 1) := by decide +kernel
theorem dX6_ray_73 : decode cX6_ray 73 = .ok (.iload_n 2, 1) := by decide +kernel
theorem dX6_ray_74 : decode cX6_ray 74 = .ok (.i2d, 1) := by decide +kernel
theorem dX6_ray_75 : decode cX6_ray 75 = .ok (.ldc2_w 144, 3) := by decide +kernel
theorem dX6_ray_78 : decode cX6_ray 78 = .ok (.ddiv, 1) := by decide +kernel
theorem dX6_ray_79 : decode cX6_ray 79 = .ok (.invokevirtual 146, 3) := by decide +kernel
theorem dX6_ray_82 : decode cX6_ray 82 = .ok (.iload 4, 2) := by decide +kernel
theorem dX6_ray_84 : decode cX6_ray 84 = .ok (.lookupswitch 50 #[(0, 28), (1, 39)], 28) := by decide +kernel
theorem dX6_ray_112 : decode cX6_ray 112 = .ok (.aload_n 0, 1) := by decide +kernel
theorem dX6_ray_113 : decode cX6_ray 113 = .ok (.getfield 39, 3) := by decide +kernel
theorem dX6_ray_116 : decode cX6_ray 116 = .ok (.getfield 150, 3) := by decide +kernel
theorem dX6_ray_119 : decode cX6_ray 119 = .ok (.invokestatic 134, 3) := by decide +kernel
theorem dX6_ray_122 : decode cX6_ray 122 = .ok (.dreturn, 1) := by decide +kernel
theorem dX6_ray_123 : decode cX6_ray 123 = .ok (.aload_n 0, 1) := by decide +kernel
theorem dX6_ray_124 : decode cX6_ray 124 = .ok (.getfield 39, 3) := by decide +kernel
theorem dX6_ray_127 : decode cX6_ray 127 = .ok (.getfield 154, 3) := by decide +kernel
theorem dX6_ray_130 : decode cX6_ray 130 = .ok (.invokestatic 134, 3) := by decide +kernel
theorem dX6_ray_133 : decode cX6_ray 133 = .ok (.dreturn, 1) := by decide +kernel
theorem dX6_ray_134 : decode cX6_ray 134 = .ok (.aload_n 0, 1) := by decide +kernel
theorem dX6_ray_135 : decode cX6_ray 135 = .ok (.getfield 32, 3) := by decide +kernel
theorem dX6_ray_138 : decode cX6_ray 138 = .ok (.aload_n 0, 1) := by decide +kernel
theorem dX6_ray_139 : decode cX6_ray 139 = .ok (.getfield 39, 3) := by decide +kernel
theorem dX6_ray_142 : decode cX6_ray 142 = .ok (.getfield 157, 3) := by decide +kernel
theorem dX6_ray_145 : decode cX6_ray 145 = .ok (.invokevirtual 160, 3) := by decide +kernel
theorem dX6_ray_148 : decode cX6_ray 148 = .ok (.i2d, 1) := by decide +kernel
theorem dX6_ray_149 : decode cX6_ray 149 = .ok (.dreturn, 1) := by decide +kernel
set_option maxRecDepth 20000 in
theorem ggX6_table_X6_needColour : GoodIn wsX6_table wsX6_needColour := goodIn_ca (goodIn_r _ [9, 10, 11] rfl (by decide +kernel)) (goodIn_sub (fun _ h => List.mem_cons_of_mem _ (List.mem_append_right _ h)) (by decide +kernel))
set_option maxRecDepth 20000 in
theorem gX6_table_X6_needColour : GoodIn wsX6_table (va_wsS RX6 127 yX6_needColour wsX6_needColour) := goodIn_app (goodIn_of _ (by decide +kernel)) ggX6_table_X6_needColour
set_option maxRecDepth 20000 in
theorem ggX6_table_X6_needWhat : GoodIn wsX6_table wsX6_needWhat := goodIn_ca (goodIn_r _ [14, 10, 11] rfl (by decide +kernel)) (goodIn_sub (fun _ h => List.mem_cons_of_mem _ (List.mem_append_right _ h)) (by decide +kernel))
set_option maxRecDepth 20000 in
theorem gX6_table_X6_needWhat : GoodIn wsX6_table (va_wsS RX6 116 yX6_needWhat wsX6_needWhat) := goodIn_app (goodIn_of _ (by decide +kernel)) ggX6_table_X6_needWhat
set_option maxRecDepth 20000 in
theorem ggX6_table_X6_layTable : GoodIn wsX6_table wsX6_layTable := goodIn_r _ [18, 1, 19, 20, 21, 22, 8, 23, 24, 25, 26, 27, 28, 29, 30, 31, 32, 33, 34, 35, 36, 37, 38, 39, 40, 41, 42, 43, 44, 45, 46, 47, 48, 49, 50, 51, 52, 53, 54, 55, 56, 57, 58, 59, 60, 61, 62, 63, 64, 65, 66, 67, 68, 69, 70, 71, 72, 73, 74, 75, 76, 77, 78, 79, 80, 81, 85, 86, 87, 88, 89, 90, 91, 92, 93, 94, 95, 96, 97, 98, 99, 104, 105, 106, 107, 108, 109, 110, 100, 101, 102, 103] rfl (by decide +kernel)
set_option maxRecDepth 20000 in
theorem gX6_table_X6_layTable : GoodIn wsX6_table (wsV RX6 163 RX6 yX6_layTable wsX6_layTable) := goodIn_app (goodIn_of _ (by decide +kernel)) ggX6_table_X6_layTable
set_option maxRecDepth 20000 in
theorem ggX6_table_X6_plain : GoodIn wsX6_table wsX6_plain := goodIn_r _ [84] rfl (by decide +kernel)
set_option maxRecDepth 20000 in
theorem gX6_table_X6_plain : GoodIn wsX6_table (va_wsS RX6 134 yX6_plain wsX6_plain) := goodIn_app (goodIn_of _ (by decide +kernel)) ggX6_table_X6_plain
theorem dX6_table_0 : decode cX6_table 0 = .ok (.iload_n 1, 1) := by decide +kernel
theorem dX6_table_1 : decode cX6_table 1 = .ok (.invokestatic 127, 3) := by decide +kernel
theorem dX6_table_4 : decode cX6_table 4 = .ok (.iload_n 2, 1) := by decide +kernel
theorem dX6_table_5 : decode cX6_table 5 = .ok (.iconst 3, 1) := by decide +kernel
theorem dX6_table_6 : decode cX6_table 6 = .ok (.invokestatic 116, 3) := by decide +kernel
theorem dX6_table_9 : decode cX6_table 9 = .ok (.aload_n 0, 1) := by decide +kernel
theorem dX6_table_10 : decode cX6_table 10 = .ok (.iload_n 1, 1) := by decide +kernel
theorem dX6_table_11 : decode cX6_table 11 = .ok (.invokevirtual 163, 3) := by decide +kernel
theorem dX6_table_14 : decode cX6_table 14 = .ok (.iload_n 2, 1) := by decide +kernel
theorem dX6_table_15 : decode cX6_table 15 = .ok (.tableswitch 58 0 2 #[25, 36, 47], 25) := by decide +kernel
theorem dX6_table_40 : decode cX6_table 40 = .ok (.aload_n 0, 1) := by decide +kernel
theorem dX6_table_41 : decode cX6_table 41 = .ok (.getfield 53, 3) := by decide +kernel
theorem dX6_table_44 : decode cX6_table 44 = .ok (.getfield 166, 3) := by decide +kernel
theorem dX6_table_47 : decode cX6_table 47 = .ok (.invokestatic 134, 3) := by decide +kernel
theorem dX6_table_50 : decode cX6_table 50 = .ok (.dreturn, 1) := by decide +kernel
theorem dX6_table_51 : decode cX6_table 51 = .ok (.aload_n 0, 1) := by decide +kernel
theorem dX6_table_52 : decode cX6_table 52 = .ok (.getfield 53, 3) := by decide +kernel
theorem dX6_table_55 : decode cX6_table 55 = .ok (.getfield 169, 3) := by decide +kernel
theorem dX6_table_58 : decode cX6_table 58 = .ok (.invokestatic 134, 3) := by decide +kernel
theorem dX6_table_61 : decode cX6_table 61 = .ok (.dreturn, 1) := by decide +kernel
theorem dX6_table_62 : decode cX6_table 62 = .ok (.aload_n 0, 1) := by decide +kernel
theorem dX6_table_63 : decode cX6_table 63 = .ok (.getfield 53, 3) := by decide +kernel
theorem dX6_table_66 : decode cX6_table 66 = .ok (.getfield 172, 3) := by decide +kernel
theorem dX6_table_69 : decode cX6_table 69 = .ok (.invokestatic 134, 3) := by decide +kernel
theorem dX6_table_72 : decode cX6_table 72 = .ok (.dreturn, 1) := by decide +kernel
theorem dX6_table_73 : decode cX6_table 73 = .ok (.aload_n 0, 1) := by decide +kernel
theorem dX6_table_74 : decode cX6_table 74 = .ok (.getfield 53, 3) := by decide +kernel
theorem dX6_table_77 : decode cX6_table 77 = .ok (.getfield 175, 3) := by decide +kernel
theorem dX6_table_80 : decode cX6_table 80 = .ok (.invokestatic 134, 3) := by decide +kernel
theorem dX6_table_83 : decode cX6_table 83 = .ok (.dreturn, 1) := by decide +kernel
set_option maxRecDepth 20000 in
theorem ggX6_image_X6_needColour : GoodIn wsX6_image wsX6_needColour := goodIn_ca (goodIn_r _ [5, 6, 7] rfl (by decide +kernel)) (goodIn_sub (fun _ h => List.mem_cons_of_mem _ (List.mem_append_right _ h)) (by decide +kernel))
set_option maxRecDepth 20000 in
theorem gX6_image_X6_needColour : GoodIn wsX6_image (va_wsS RX6 127 yX6_needColour wsX6_needColour) := goodIn_app (goodIn_of _ (by decide +kernel)) ggX6_image_X6_needColour
set_option maxRecDepth 20000 in
theorem ggX6_image_X6_needWhat : GoodIn wsX6_image wsX6_needWhat := goodIn_ca (goodIn_r _ [10, 6, 7] rfl (by decide +kernel)) (goodIn_sub (fun _ h => List.mem_cons_of_mem _ (List.mem_append_right _ h)) (by decide +kernel))
set_option maxRecDepth 20000 in
theorem gX6_image_X6_needWhat : GoodIn wsX6_image (va_wsS RX6 116 yX6_needWhat wsX6_needWhat) := goodIn_app (goodIn_of _ (by decide +kernel)) ggX6_image_X6_needWhat
set_option maxRecDepth 20000 in
theorem ggX6_image_X6_layTable : GoodIn wsX6_image wsX6_layTable := goodIn_r _ [14, 1, 15, 16, 17, 18, 4, 19, 20, 21, 22, 23, 24, 25, 26, 27, 28, 29, 30, 31, 32, 33, 34, 35, 36, 37, 38, 39, 40, 41, 42, 43, 44, 45, 46, 47, 48, 49, 50, 51, 52, 53, 54, 55, 56, 57, 58, 59, 60, 61, 62, 63, 64, 65, 66, 67, 68, 69, 70, 71, 72, 73, 74, 75, 76, 77, 104, 105, 106, 107, 108, 109, 110, 111, 112, 113, 114, 115, 116, 117, 118, 119, 120, 121, 122, 123, 124, 125, 126, 127, 128, 129] rfl (by decide +kernel)
set_option maxRecDepth 20000 in
theorem gX6_image_X6_layTable : GoodIn wsX6_image (wsV RX6 163 RX6 yX6_layTable wsX6_layTable) := goodIn_app (goodIn_of _ (by decide +kernel)) ggX6_image_X6_layTable
set_option maxRecDepth 20000 in
theorem ggX6_image_X4_focus : GoodIn wsX6_image wsX4_focus := goodIn_r _ [81, 68, 82, 4, 83, 84, 85, 86, 87, 126, 127, 128, 129] rfl (by decide +kernel)
set_option maxRecDepth 20000 in
theorem gX6_image_X4_focus : GoodIn wsX6_image (wsV RX6 178 RX4 yX4_focus wsX4_focus) := goodIn_app (goodIn_of _ (by decide +kernel)) ggX6_image_X4_focus
set_option maxRecDepth 20000 in
theorem ggX6_image_X6_plain : GoodIn wsX6_image wsX6_plain := goodIn_r _ [90] rfl (by decide +kernel)
set_option maxRecDepth 20000 in
theorem gX6_image_X6_plain : GoodIn wsX6_image (va_wsS RX6 134 yX6_plain wsX6_plain) := goodIn_app (goodIn_of _ (by decide +kernel)) ggX6_image_X6_plain
set_option maxRecDepth 20000 in
theorem ggX6_image_X4_hasImage : GoodIn wsX6_image wsX4_hasImage := goodIn_r _ [94, 69, 82, 4, 83, 84, 85, 86, 87, 126, 127, 128, 129] rfl (by decide +kernel)
set_option maxRecDepth 20000 in
theorem gX6_image_X4_hasImage : GoodIn wsX6_image (wsV RX6 182 RX4 yX4_hasImage wsX4_hasImage) := goodIn_app (goodIn_of _ (by decide +kernel)) ggX6_image_X4_hasImage
set_option maxRecDepth 20000 in
theorem ggX6_image_X4_back : GoodIn wsX6_image wsX4_back := goodIn_r _ [98, 69, 67, 82, 4, 83, 84, 85, 86, 87, 126, 127, 128, 129] rfl (by decide +kernel)
set_option maxRecDepth 20000 in
theorem gX6_image_X4_back : GoodIn wsX6_image (wsV RX6 186 RX4 yX4_back wsX4_back) := goodIn_app (goodIn_of _ (by decide +kernel)) ggX6_image_X4_back
