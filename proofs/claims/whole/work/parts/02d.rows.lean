set_option maxRecDepth 20000 in
theorem ggL_lens_X6_lens : GoodIn wsL_lens wsX6_lens := goodIn_ca (goodIn_ca (goodIn_ca (goodIn_r _ [8, 9, 10, 11, 12, 7, 13, 14, 15, 16, 17, 18, 19, 20, 21, 22, 23, 24, 25, 26, 27, 28, 29, 30, 31, 32, 33, 36, 37, 38, 39, 40, 41, 42, 43, 44, 45, 46, 47, 48, 49, 50] rfl (by decide +kernel)) (goodIn_sub (fun _ h => List.mem_cons_of_mem _ (List.mem_append_left _ (List.mem_append_left _ (List.mem_append_right _ h)))) (by decide +kernel))) (goodIn_sub (fun _ h => List.mem_cons_of_mem _ (List.mem_append_left _ (List.mem_append_right _ h))) (by decide +kernel))) (goodIn_sub (fun _ h => List.mem_cons_of_mem _ (List.mem_append_right _ h)) (by decide +kernel))
set_option maxRecDepth 20000 in
theorem gL_lens_X6_lens : GoodIn wsL_lens (wsV RL 7 RX6 yX6_lens wsX6_lens) := goodIn_app (goodIn_of _ (by decide +kernel)) ggL_lens_X6_lens
theorem dL_lens_0 : decode cL_lens 0 = .ok (.aload 5, 2) := by decide +kernel
theorem dL_lens_2 : decode cL_lens 2 = .ok (.aload_n 0, 1) := by decide +kernel
theorem dL_lens_3 : decode cL_lens 3 = .ok (.iload_n 1, 1) := by decide +kernel
theorem dL_lens_4 : decode cL_lens 4 = .ok (.iload_n 2, 1) := by decide +kernel
theorem dL_lens_5 : decode cL_lens 5 = .ok (.iload_n 3, 1) := by decide +kernel
theorem dL_lens_6 : decode cL_lens 6 = .ok (.iload 4, 2) := by decide +kernel
theorem dL_lens_8 : decode cL_lens 8 = .ok (.invokevirtual 7, 3) := by decide +kernel
theorem dL_lens_11 : decode cL_lens 11 = .ok (.i2l, 1) := by decide +kernel
theorem dL_lens_12 : decode cL_lens 12 = .ok (.putfield 13, 3) := by decide +kernel
theorem dL_lens_15 : decode cL_lens 15 = .ok (.goto 15, 3) := by decide +kernel
theorem dL_lens_18 : decode cL_lens 18 = .ok (.astore 6, 2) := by decide +kernel
theorem dL_lens_20 : decode cL_lens 20 = .ok (.iconst 1, 1) := by decide +kernel
theorem dL_lens_21 : decode cL_lens 21 = .ok (.ireturn, 1) := by decide +kernel
theorem dL_lens_22 : decode cL_lens 22 = .ok (.astore 6, 2) := by decide +kernel
theorem dL_lens_24 : decode cL_lens 24 = .ok (.iconst 2, 1) := by decide +kernel
theorem dL_lens_25 : decode cL_lens 25 = .ok (.ireturn, 1) := by decide +kernel
theorem dL_lens_26 : decode cL_lens 26 = .ok (.astore 6, 2) := by decide +kernel
theorem dL_lens_28 : decode cL_lens 28 = .ok (.iconst 3, 1) := by decide +kernel
theorem dL_lens_29 : decode cL_lens 29 = .ok (.ireturn, 1) := by decide +kernel
theorem dL_lens_30 : decode cL_lens 30 = .ok (.iconst 0, 1) := by decide +kernel
theorem dL_lens_31 : decode cL_lens 31 = .ok (.ireturn, 1) := by decide +kernel
set_option maxRecDepth 20000 in
theorem ggL_stop_X6_stop : GoodIn wsL_stop wsX6_stop := goodIn_ca (goodIn_ca (goodIn_ca (goodIn_r _ [8, 9, 10, 7, 11, 12, 13, 14, 15, 16, 17, 18, 19, 20, 21, 22, 23, 24, 25, 26, 27, 28, 29, 30, 31, 32, 33, 36, 37, 38, 39, 40, 41, 42, 43, 44, 45, 46, 47, 48, 49, 50] rfl (by decide +kernel)) (goodIn_sub (fun _ h => List.mem_cons_of_mem _ (List.mem_append_left _ (List.mem_append_left _ (List.mem_append_right _ h)))) (by decide +kernel))) (goodIn_sub (fun _ h => List.mem_cons_of_mem _ (List.mem_append_left _ (List.mem_append_right _ h))) (by decide +kernel))) (goodIn_sub (fun _ h => List.mem_cons_of_mem _ (List.mem_append_right _ h)) (by decide +kernel))
set_option maxRecDepth 20000 in
theorem gL_stop_X6_stop : GoodIn wsL_stop (wsV RL 25 RX6 yX6_stop wsX6_stop) := goodIn_app (goodIn_of _ (by decide +kernel)) ggL_stop_X6_stop
theorem dL_stop_0 : decode cL_stop 0 = .ok (.aload_n 3, 1) := by decide +kernel
theorem dL_stop_1 : decode cL_stop 1 = .ok (.aload_n 0, 1) := by decide +kernel
theorem dL_stop_2 : decode cL_stop 2 = .ok (.iload_n 1, 1) := by decide +kernel
theorem dL_stop_3 : decode cL_stop 3 = .ok (.iload_n 2, 1) := by decide +kernel
theorem dL_stop_4 : decode cL_stop 4 = .ok (.invokevirtual 25, 3) := by decide +kernel
theorem dL_stop_7 : decode cL_stop 7 = .ok (.i2l, 1) := by decide +kernel
theorem dL_stop_8 : decode cL_stop 8 = .ok (.putfield 13, 3) := by decide +kernel
theorem dL_stop_11 : decode cL_stop 11 = .ok (.goto 15, 3) := by decide +kernel
theorem dL_stop_14 : decode cL_stop 14 = .ok (.astore 4, 2) := by decide +kernel
theorem dL_stop_16 : decode cL_stop 16 = .ok (.iconst 1, 1) := by decide +kernel
theorem dL_stop_17 : decode cL_stop 17 = .ok (.ireturn, 1) := by decide +kernel
theorem dL_stop_18 : decode cL_stop 18 = .ok (.astore 4, 2) := by decide +kernel
theorem dL_stop_20 : decode cL_stop 20 = .ok (.iconst 2, 1) := by decide +kernel
theorem dL_stop_21 : decode cL_stop 21 = .ok (.ireturn, 1) := by decide +kernel
theorem dL_stop_22 : decode cL_stop 22 = .ok (.astore 4, 2) := by decide +kernel
theorem dL_stop_24 : decode cL_stop 24 = .ok (.iconst 3, 1) := by decide +kernel
theorem dL_stop_25 : decode cL_stop 25 = .ok (.ireturn, 1) := by decide +kernel
theorem dL_stop_26 : decode cL_stop 26 = .ok (.iconst 0, 1) := by decide +kernel
theorem dL_stop_27 : decode cL_stop 27 = .ok (.ireturn, 1) := by decide +kernel
set_option maxRecDepth 20000 in
theorem ggL_take_X6_take : GoodIn wsL_take wsX6_take := goodIn_ca (goodIn_r _ [6, 7, 8, 9, 10, 11, 12, 13, 14, 5, 15, 16, 17, 18, 19, 20, 21, 24, 25, 26, 27, 28, 29, 30, 31, 32, 33, 34, 35, 36, 37, 38] rfl (by decide +kernel)) (goodIn_sub (fun _ h => List.mem_cons_of_mem _ (List.mem_append_right _ h)) (by decide +kernel))
set_option maxRecDepth 20000 in
theorem gL_take_X6_take : GoodIn wsL_take (wsV RL 29 RX6 yX6_take wsX6_take) := goodIn_app (goodIn_of _ (by decide +kernel)) ggL_take_X6_take
theorem dL_take_0 : decode cL_take 0 = .ok (.aload_n 2, 1) := by decide +kernel
theorem dL_take_1 : decode cL_take 1 = .ok (.aload_n 0, 1) := by decide +kernel
theorem dL_take_2 : decode cL_take 2 = .ok (.iload_n 1, 1) := by decide +kernel
theorem dL_take_3 : decode cL_take 3 = .ok (.invokevirtual 29, 3) := by decide +kernel
theorem dL_take_6 : decode cL_take 6 = .ok (.i2l, 1) := by decide +kernel
theorem dL_take_7 : decode cL_take 7 = .ok (.putfield 13, 3) := by decide +kernel
theorem dL_take_10 : decode cL_take 10 = .ok (.goto 6, 3) := by decide +kernel
theorem dL_take_13 : decode cL_take 13 = .ok (.astore_n 3, 1) := by decide +kernel
theorem dL_take_14 : decode cL_take 14 = .ok (.iconst 1, 1) := by decide +kernel
theorem dL_take_15 : decode cL_take 15 = .ok (.ireturn, 1) := by decide +kernel
theorem dL_take_16 : decode cL_take 16 = .ok (.iconst 0, 1) := by decide +kernel
theorem dL_take_17 : decode cL_take 17 = .ok (.ireturn, 1) := by decide +kernel
set_option maxRecDepth 20000 in
theorem ggL_move_X6_move : GoodIn wsL_move wsX6_move := goodIn_ca (goodIn_ca (goodIn_r _ [7, 8, 9, 10, 11, 12, 13, 6, 14, 15, 16, 17, 18, 19, 20, 21, 22, 23, 24, 25, 26, 27, 28, 31, 32, 33, 34, 35, 36, 37, 38, 39, 40, 41, 42, 43, 44, 45] rfl (by decide +kernel)) (goodIn_sub (fun _ h => List.mem_cons_of_mem _ (List.mem_append_left _ (List.mem_append_right _ h))) (by decide +kernel))) (goodIn_sub (fun _ h => List.mem_cons_of_mem _ (List.mem_append_right _ h)) (by decide +kernel))
set_option maxRecDepth 20000 in
theorem gL_move_X6_move : GoodIn wsL_move (wsV RL 33 RX6 yX6_move wsX6_move) := goodIn_app (goodIn_of _ (by decide +kernel)) ggL_move_X6_move
theorem dL_move_0 : decode cL_move 0 = .ok (.aload_n 3, 1) := by decide +kernel
theorem dL_move_1 : decode cL_move 1 = .ok (.aload_n 0, 1) := by decide +kernel
theorem dL_move_2 : decode cL_move 2 = .ok (.iload_n 1, 1) := by decide +kernel
theorem dL_move_3 : decode cL_move 3 = .ok (.iload_n 2, 1) := by decide +kernel
theorem dL_move_4 : decode cL_move 4 = .ok (.invokevirtual 33, 3) := by decide +kernel
theorem dL_move_7 : decode cL_move 7 = .ok (.i2l, 1) := by decide +kernel
theorem dL_move_8 : decode cL_move 8 = .ok (.putfield 13, 3) := by decide +kernel
theorem dL_move_11 : decode cL_move 11 = .ok (.goto 11, 3) := by decide +kernel
theorem dL_move_14 : decode cL_move 14 = .ok (.astore 4, 2) := by decide +kernel
theorem dL_move_16 : decode cL_move 16 = .ok (.iconst 1, 1) := by decide +kernel
theorem dL_move_17 : decode cL_move 17 = .ok (.ireturn, 1) := by decide +kernel
theorem dL_move_18 : decode cL_move 18 = .ok (.astore 4, 2) := by decide +kernel
theorem dL_move_20 : decode cL_move 20 = .ok (.iconst 2, 1) := by decide +kernel
theorem dL_move_21 : decode cL_move 21 = .ok (.ireturn, 1) := by decide +kernel
theorem dL_move_22 : decode cL_move 22 = .ok (.iconst 0, 1) := by decide +kernel
theorem dL_move_23 : decode cL_move 23 = .ok (.ireturn, 1) := by decide +kernel
set_option maxRecDepth 20000 in
theorem ggL_half_X6_half : GoodIn wsL_half wsX6_half := goodIn_ca (goodIn_ca (goodIn_r _ [7, 8, 9, 10, 11, 6, 12, 13, 14, 15, 16, 17, 18, 19, 20, 21, 22, 23, 24, 27, 28, 29, 30, 31, 32, 33, 34, 35, 36, 37, 38, 39, 40, 41] rfl (by decide +kernel)) (goodIn_sub (fun _ h => List.mem_cons_of_mem _ (List.mem_append_left _ (List.mem_append_right _ h))) (by decide +kernel))) (goodIn_sub (fun _ h => List.mem_cons_of_mem _ (List.mem_append_right _ h)) (by decide +kernel))
set_option maxRecDepth 20000 in
theorem gL_half_X6_half : GoodIn wsL_half (wsV RL 36 RX6 yX6_half wsX6_half) := goodIn_app (goodIn_of _ (by decide +kernel)) ggL_half_X6_half
theorem dL_half_0 : decode cL_half 0 = .ok (.aload_n 3, 1) := by decide +kernel
theorem dL_half_1 : decode cL_half 1 = .ok (.aload_n 0, 1) := by decide +kernel
theorem dL_half_2 : decode cL_half 2 = .ok (.iload_n 1, 1) := by decide +kernel
theorem dL_half_3 : decode cL_half 3 = .ok (.iload_n 2, 1) := by decide +kernel
theorem dL_half_4 : decode cL_half 4 = .ok (.invokevirtual 36, 3) := by decide +kernel
theorem dL_half_7 : decode cL_half 7 = .ok (.i2l, 1) := by decide +kernel
theorem dL_half_8 : decode cL_half 8 = .ok (.putfield 13, 3) := by decide +kernel
theorem dL_half_11 : decode cL_half 11 = .ok (.goto 11, 3) := by decide +kernel
theorem dL_half_14 : decode cL_half 14 = .ok (.astore 4, 2) := by decide +kernel
theorem dL_half_16 : decode cL_half 16 = .ok (.iconst 1, 1) := by decide +kernel
theorem dL_half_17 : decode cL_half 17 = .ok (.ireturn, 1) := by decide +kernel
theorem dL_half_18 : decode cL_half 18 = .ok (.astore 4, 2) := by decide +kernel
theorem dL_half_20 : decode cL_half 20 = .ok (.iconst 2, 1) := by decide +kernel
theorem dL_half_21 : decode cL_half 21 = .ok (.ireturn, 1) := by decide +kernel
theorem dL_half_22 : decode cL_half 22 = .ok (.iconst 0, 1) := by decide +kernel
theorem dL_half_23 : decode cL_half 23 = .ok (.ireturn, 1) := by decide +kernel
set_option maxRecDepth 20000 in
theorem ggL_swap_X6_swap : GoodIn wsL_swap wsX6_swap := goodIn_ca (goodIn_r _ [6, 7, 8, 9, 10, 5, 11, 12, 13, 14, 15, 16, 17, 18, 21, 22, 23, 24, 25, 26, 27, 28, 29, 30, 31, 32, 33, 34, 35] rfl (by decide +kernel)) (goodIn_sub (fun _ h => List.mem_cons_of_mem _ (List.mem_append_right _ h)) (by decide +kernel))
set_option maxRecDepth 20000 in
theorem gL_swap_X6_swap : GoodIn wsL_swap (wsV RL 39 RX6 yX6_swap wsX6_swap) := goodIn_app (goodIn_of _ (by decide +kernel)) ggL_swap_X6_swap
theorem dL_swap_0 : decode cL_swap 0 = .ok (.aload_n 3, 1) := by decide +kernel
theorem dL_swap_1 : decode cL_swap 1 = .ok (.aload_n 0, 1) := by decide +kernel
theorem dL_swap_2 : decode cL_swap 2 = .ok (.iload_n 1, 1) := by decide +kernel
theorem dL_swap_3 : decode cL_swap 3 = .ok (.iload_n 2, 1) := by decide +kernel
theorem dL_swap_4 : decode cL_swap 4 = .ok (.invokevirtual 39, 3) := by decide +kernel
theorem dL_swap_7 : decode cL_swap 7 = .ok (.i2l, 1) := by decide +kernel
theorem dL_swap_8 : decode cL_swap 8 = .ok (.putfield 13, 3) := by decide +kernel
theorem dL_swap_11 : decode cL_swap 11 = .ok (.goto 7, 3) := by decide +kernel
theorem dL_swap_14 : decode cL_swap 14 = .ok (.astore 4, 2) := by decide +kernel
theorem dL_swap_16 : decode cL_swap 16 = .ok (.iconst 1, 1) := by decide +kernel
theorem dL_swap_17 : decode cL_swap 17 = .ok (.ireturn, 1) := by decide +kernel
theorem dL_swap_18 : decode cL_swap 18 = .ok (.iconst 0, 1) := by decide +kernel
theorem dL_swap_19 : decode cL_swap 19 = .ok (.ireturn, 1) := by decide +kernel
set_option maxRecDepth 20000 in
theorem ggL_thing_X6_thing : GoodIn wsL_thing wsX6_thing := goodIn_ca (goodIn_ca (goodIn_r _ [7, 8, 9, 10, 11, 12, 13, 6, 14, 15, 16, 19, 20, 21, 22, 23, 24, 25, 26, 27, 28, 29, 30, 31, 32, 33] rfl (by decide +kernel)) (goodIn_sub (fun _ h => List.mem_cons_of_mem _ (List.mem_append_left _ (List.mem_append_right _ h))) (by decide +kernel))) (goodIn_sub (fun _ h => List.mem_cons_of_mem _ (List.mem_append_right _ h)) (by decide +kernel))
set_option maxRecDepth 20000 in
theorem gL_thing_X6_thing : GoodIn wsL_thing (wsV RL 42 RX6 yX6_thing wsX6_thing) := goodIn_app (goodIn_of _ (by decide +kernel)) ggL_thing_X6_thing
theorem dL_thing_0 : decode cL_thing 0 = .ok (.aload_n 2, 1) := by decide +kernel
theorem dL_thing_1 : decode cL_thing 1 = .ok (.aload_n 0, 1) := by decide +kernel
theorem dL_thing_2 : decode cL_thing 2 = .ok (.iload_n 1, 1) := by decide +kernel
theorem dL_thing_3 : decode cL_thing 3 = .ok (.invokevirtual 42, 3) := by decide +kernel
theorem dL_thing_6 : decode cL_thing 6 = .ok (.i2l, 1) := by decide +kernel
theorem dL_thing_7 : decode cL_thing 7 = .ok (.putfield 13, 3) := by decide +kernel
theorem dL_thing_10 : decode cL_thing 10 = .ok (.goto 9, 3) := by decide +kernel
theorem dL_thing_13 : decode cL_thing 13 = .ok (.astore_n 3, 1) := by decide +kernel
theorem dL_thing_14 : decode cL_thing 14 = .ok (.iconst 1, 1) := by decide +kernel
theorem dL_thing_15 : decode cL_thing 15 = .ok (.ireturn, 1) := by decide +kernel
theorem dL_thing_16 : decode cL_thing 16 = .ok (.astore_n 3, 1) := by decide +kernel
theorem dL_thing_17 : decode cL_thing 17 = .ok (.iconst 2, 1) := by decide +kernel
theorem dL_thing_18 : decode cL_thing 18 = .ok (.ireturn, 1) := by decide +kernel
theorem dL_thing_19 : decode cL_thing 19 = .ok (.iconst 0, 1) := by decide +kernel
theorem dL_thing_20 : decode cL_thing 20 = .ok (.ireturn, 1) := by decide +kernel
set_option maxRecDepth 20000 in
theorem ggL_screen_X6_screen : GoodIn wsL_screen wsX6_screen := goodIn_ca (goodIn_ca (goodIn_r _ [7, 8, 9, 10, 11, 12, 13, 6, 14, 15, 16, 19, 20, 21, 22, 23, 24, 25, 26, 27, 28, 29, 30, 31, 32, 33] rfl (by decide +kernel)) (goodIn_sub (fun _ h => List.mem_cons_of_mem _ (List.mem_append_left _ (List.mem_append_right _ h))) (by decide +kernel))) (goodIn_sub (fun _ h => List.mem_cons_of_mem _ (List.mem_append_right _ h)) (by decide +kernel))
set_option maxRecDepth 20000 in
theorem gL_screen_X6_screen : GoodIn wsL_screen (wsV RL 45 RX6 yX6_screen wsX6_screen) := goodIn_app (goodIn_of _ (by decide +kernel)) ggL_screen_X6_screen
theorem dL_screen_0 : decode cL_screen 0 = .ok (.aload_n 2, 1) := by decide +kernel
theorem dL_screen_1 : decode cL_screen 1 = .ok (.aload_n 0, 1) := by decide +kernel
theorem dL_screen_2 : decode cL_screen 2 = .ok (.iload_n 1, 1) := by decide +kernel
theorem dL_screen_3 : decode cL_screen 3 = .ok (.invokevirtual 45, 3) := by decide +kernel
theorem dL_screen_6 : decode cL_screen 6 = .ok (.i2l, 1) := by decide +kernel
theorem dL_screen_7 : decode cL_screen 7 = .ok (.putfield 13, 3) := by decide +kernel
theorem dL_screen_10 : decode cL_screen 10 = .ok (.goto 9, 3) := by decide +kernel
theorem dL_screen_13 : decode cL_screen 13 = .ok (.astore_n 3, 1) := by decide +kernel
theorem dL_screen_14 : decode cL_screen 14 = .ok (.iconst 1, 1) := by decide +kernel
theorem dL_screen_15 : decode cL_screen 15 = .ok (.ireturn, 1) := by decide +kernel
theorem dL_screen_16 : decode cL_screen 16 = .ok (.astore_n 3, 1) := by decide +kernel
theorem dL_screen_17 : decode cL_screen 17 = .ok (.iconst 2, 1) := by decide +kernel
theorem dL_screen_18 : decode cL_screen 18 = .ok (.ireturn, 1) := by decide +kernel
theorem dL_screen_19 : decode cL_screen 19 = .ok (.iconst 0, 1) := by decide +kernel
theorem dL_screen_20 : decode cL_screen 20 = .ok (.ireturn, 1) := by decide +kernel
set_option maxRecDepth 20000 in
theorem ggL_tall_X6_tall : GoodIn wsL_tall wsX6_tall := goodIn_ca (goodIn_r _ [6, 7, 8, 9, 12, 13, 14, 15, 16, 17, 18, 19, 20, 21, 22, 23, 24, 25, 26] rfl (by decide +kernel)) (goodIn_sub (fun _ h => List.mem_cons_of_mem _ (List.mem_append_right _ h)) (by decide +kernel))
set_option maxRecDepth 20000 in
theorem gL_tall_X6_tall : GoodIn wsL_tall (wsV RL 48 RX6 yX6_tall wsX6_tall) := goodIn_app (goodIn_of _ (by decide +kernel)) ggL_tall_X6_tall
theorem dL_tall_0 : decode cL_tall 0 = .ok (.aload_n 2, 1) := by decide +kernel
theorem dL_tall_1 : decode cL_tall 1 = .ok (.aload_n 0, 1) := by decide +kernel
theorem dL_tall_2 : decode cL_tall 2 = .ok (.iload_n 1, 1) := by decide +kernel
theorem dL_tall_3 : decode cL_tall 3 = .ok (.invokevirtual 48, 3) := by decide +kernel
theorem dL_tall_6 : decode cL_tall 6 = .ok (.i2l, 1) := by decide +kernel
theorem dL_tall_7 : decode cL_tall 7 = .ok (.putfield 13, 3) := by decide +kernel
theorem dL_tall_10 : decode cL_tall 10 = .ok (.goto 6, 3) := by decide +kernel
theorem dL_tall_13 : decode cL_tall 13 = .ok (.astore_n 3, 1) := by decide +kernel
theorem dL_tall_14 : decode cL_tall 14 = .ok (.iconst 1, 1) := by decide +kernel
theorem dL_tall_15 : decode cL_tall 15 = .ok (.ireturn, 1) := by decide +kernel
theorem dL_tall_16 : decode cL_tall 16 = .ok (.iconst 0, 1) := by decide +kernel
theorem dL_tall_17 : decode cL_tall 17 = .ok (.ireturn, 1) := by decide +kernel
set_option maxRecDepth 20000 in
theorem ggL_ofPiece_X6_ofPiece : GoodIn wsL_ofPiece wsX6_ofPiece := goodIn_ca (goodIn_ca (goodIn_r _ [7, 8, 9, 10, 11, 12, 13, 14, 15, 6, 16, 17, 18, 19, 20, 21, 22, 23, 24, 25, 26, 27, 28, 29, 30, 31, 32, 33, 34, 35, 36, 37, 38, 39, 40, 41, 42, 43, 44, 45, 46, 47, 48, 49, 50, 51, 52, 53, 54, 55, 56, 57, 58, 59, 60, 61, 62, 63, 64, 67, 68, 69, 70, 71, 72, 73, 74, 75, 76, 77, 78, 79, 80, 81, 82, 83, 84, 85, 86, 87, 88] rfl (by decide +kernel)) (goodIn_sub (fun _ h => List.mem_cons_of_mem _ (List.mem_append_left _ (List.mem_append_right _ h))) (by decide +kernel))) (goodIn_sub (fun _ h => List.mem_cons_of_mem _ (List.mem_append_right _ h)) (by decide +kernel))
set_option maxRecDepth 20000 in
theorem gL_ofPiece_X6_ofPiece : GoodIn wsL_ofPiece (wsV RL 51 RX6 yX6_ofPiece wsX6_ofPiece) := goodIn_app (goodIn_of _ (by decide +kernel)) ggL_ofPiece_X6_ofPiece
theorem dL_ofPiece_0 : decode cL_ofPiece 0 = .ok (.aload_n 3, 1) := by decide +kernel
theorem dL_ofPiece_1 : decode cL_ofPiece 1 = .ok (.aload_n 0, 1) := by decide +kernel
theorem dL_ofPiece_2 : decode cL_ofPiece 2 = .ok (.iload_n 1, 1) := by decide +kernel
theorem dL_ofPiece_3 : decode cL_ofPiece 3 = .ok (.iload_n 2, 1) := by decide +kernel
theorem dL_ofPiece_4 : decode cL_ofPiece 4 = .ok (.invokevirtual 51, 3) := by decide +kernel
theorem dL_ofPiece_7 : decode cL_ofPiece 7 = .ok (.i2l, 1) := by decide +kernel
theorem dL_ofPiece_8 : decode cL_ofPiece 8 = .ok (.putfield 13, 3) := by decide +kernel
theorem dL_ofPiece_11 : decode cL_ofPiece 11 = .ok (.goto 11, 3) := by decide +kernel
theorem dL_ofPiece_14 : decode cL_ofPiece 14 = .ok (.astore 4, 2) := by decide +kernel
theorem dL_ofPiece_16 : decode cL_ofPiece 16 = .ok (.iconst 1, 1) := by decide +kernel
theorem dL_ofPiece_17 : decode cL_ofPiece 17 = .ok (.ireturn, 1) := by decide +kernel
theorem dL_ofPiece_18 : decode cL_ofPiece 18 = .ok (.astore 4, 2) := by decide +kernel
theorem dL_ofPiece_20 : decode cL_ofPiece 20 = .ok (.iconst 2, 1) := by decide +kernel
theorem dL_ofPiece_21 : decode cL_ofPiece 21 = .ok (.ireturn, 1) := by decide +kernel
theorem dL_ofPiece_22 : decode cL_ofPiece 22 = .ok (.iconst 0, 1) := by decide +kernel
theorem dL_ofPiece_23 : decode cL_ofPiece 23 = .ok (.ireturn, 1) := by decide +kernel
set_option maxRecDepth 20000 in
theorem ggL_strength_X6_strength : GoodIn wsL_strength wsX6_strength := goodIn_ca (goodIn_ca (goodIn_r _ [7, 8, 9, 10, 11, 12, 6, 13, 14, 15, 16, 17, 18, 19, 20, 21, 22, 23, 24, 25, 26, 27, 28, 29, 30, 31, 32, 33, 34, 37, 38, 39, 40, 41, 42, 43, 44, 45, 46, 47, 48, 49, 50, 51] rfl (by decide +kernel)) (goodIn_sub (fun _ h => List.mem_cons_of_mem _ (List.mem_append_left _ (List.mem_append_right _ h))) (by decide +kernel))) (goodIn_sub (fun _ h => List.mem_cons_of_mem _ (List.mem_append_right _ h)) (by decide +kernel))
set_option maxRecDepth 20000 in
theorem gL_strength_X6_strength : GoodIn wsL_strength (wsV RL 54 RX6 yX6_strength wsX6_strength) := goodIn_app (goodIn_of _ (by decide +kernel)) ggL_strength_X6_strength
theorem dL_strength_0 : decode cL_strength 0 = .ok (.aload_n 3, 1) := by decide +kernel
theorem dL_strength_1 : decode cL_strength 1 = .ok (.aload_n 0, 1) := by decide +kernel
theorem dL_strength_2 : decode cL_strength 2 = .ok (.iload_n 1, 1) := by decide +kernel
theorem dL_strength_3 : decode cL_strength 3 = .ok (.iload_n 2, 1) := by decide +kernel
theorem dL_strength_4 : decode cL_strength 4 = .ok (.invokevirtual 54, 3) := by decide +kernel
theorem dL_strength_7 : decode cL_strength 7 = .ok (.putfield 58, 3) := by decide +kernel
theorem dL_strength_10 : decode cL_strength 10 = .ok (.goto 11, 3) := by decide +kernel
theorem dL_strength_13 : decode cL_strength 13 = .ok (.astore 4, 2) := by decide +kernel
theorem dL_strength_15 : decode cL_strength 15 = .ok (.iconst 1, 1) := by decide +kernel
theorem dL_strength_16 : decode cL_strength 16 = .ok (.ireturn, 1) := by decide +kernel
theorem dL_strength_17 : decode cL_strength 17 = .ok (.astore 4, 2) := by decide +kernel
theorem dL_strength_19 : decode cL_strength 19 = .ok (.iconst 2, 1) := by decide +kernel
theorem dL_strength_20 : decode cL_strength 20 = .ok (.ireturn, 1) := by decide +kernel
theorem dL_strength_21 : decode cL_strength 21 = .ok (.iconst 0, 1) := by decide +kernel
theorem dL_strength_22 : decode cL_strength 22 = .ok (.ireturn, 1) := by decide +kernel
set_option maxRecDepth 20000 in
theorem ggL_ray_X6_ray : GoodIn wsL_ray wsX6_ray := goodIn_ca (goodIn_r _ [6, 7, 8, 9, 10, 11, 12, 13, 14, 15, 16, 17, 5, 18, 19, 20, 21, 22, 23, 24, 25, 26, 27, 28, 29, 30, 31, 32, 33, 34, 35, 36, 37, 38, 39, 40, 41, 42, 43, 44, 45, 46, 47, 48, 49, 50, 51, 52, 53, 54, 55, 56, 57, 58, 59, 60, 61, 62, 63, 64, 65, 66, 67, 68, 69, 70, 71, 72, 73, 74, 75, 76, 77, 78, 79, 80, 83, 84, 85, 86, 87, 88, 89, 90, 91, 92, 93, 94, 95, 96, 97, 98, 99, 100, 101, 102, 103, 104, 105, 106, 107] rfl (by decide +kernel)) (goodIn_sub (fun _ h => List.mem_cons_of_mem _ (List.mem_append_right _ h)) (by decide +kernel))
set_option maxRecDepth 20000 in
theorem gL_ray_X6_ray : GoodIn wsL_ray (wsV RL 62 RX6 yX6_ray wsX6_ray) := goodIn_app (goodIn_of _ (by decide +kernel)) ggL_ray_X6_ray
theorem dL_ray_0 : decode cL_ray 0 = .ok (.aload 5, 2) := by decide +kernel
theorem dL_ray_2 : decode cL_ray 2 = .ok (.aload_n 0, 1) := by decide +kernel
theorem dL_ray_3 : decode cL_ray 3 = .ok (.iload_n 1, 1) := by decide +kernel
theorem dL_ray_4 : decode cL_ray 4 = .ok (.iload_n 2, 1) := by decide +kernel
theorem dL_ray_5 : decode cL_ray 5 = .ok (.iload_n 3, 1) := by decide +kernel
theorem dL_ray_6 : decode cL_ray 6 = .ok (.iload 4, 2) := by decide +kernel
theorem dL_ray_8 : decode cL_ray 8 = .ok (.invokevirtual 62, 3) := by decide +kernel
theorem dL_ray_11 : decode cL_ray 11 = .ok (.putfield 58, 3) := by decide +kernel
theorem dL_ray_14 : decode cL_ray 14 = .ok (.goto 7, 3) := by decide +kernel
theorem dL_ray_17 : decode cL_ray 17 = .ok (.astore 6, 2) := by decide +kernel
theorem dL_ray_19 : decode cL_ray 19 = .ok (.iconst 1, 1) := by decide +kernel
theorem dL_ray_20 : decode cL_ray 20 = .ok (.ireturn, 1) := by decide +kernel
theorem dL_ray_21 : decode cL_ray 21 = .ok (.iconst 0, 1) := by decide +kernel
theorem dL_ray_22 : decode cL_ray 22 = .ok (.ireturn, 1) := by decide +kernel
set_option maxRecDepth 20000 in
theorem ggL_table_X6_table : GoodIn wsL_table wsX6_table := goodIn_ca (goodIn_r _ [6, 7, 8, 9, 10, 11, 12, 13, 5, 14, 15, 16, 17, 18, 19, 20, 21, 22, 23, 24, 25, 26, 27, 28, 29, 30, 31, 32, 33, 34, 35, 36, 37, 38, 39, 40, 41, 42, 43, 44, 45, 46, 47, 48, 49, 50, 51, 52, 53, 54, 55, 56, 57, 58, 59, 60, 61, 62, 63, 64, 65, 66, 67, 68, 69, 70, 71, 72, 73, 74, 75, 76, 77, 78, 79, 80, 81, 82, 83, 84, 85, 86, 87, 88, 89, 92, 93, 94, 95, 96, 97, 98, 99, 100, 101, 102, 103, 104, 105, 106, 107, 108, 109, 110, 111, 112, 113, 114, 115, 116, 117] rfl (by decide +kernel)) (goodIn_sub (fun _ h => List.mem_cons_of_mem _ (List.mem_append_right _ h)) (by decide +kernel))
set_option maxRecDepth 20000 in
theorem gL_table_X6_table : GoodIn wsL_table (wsV RL 66 RX6 yX6_table wsX6_table) := goodIn_app (goodIn_of _ (by decide +kernel)) ggL_table_X6_table
theorem dL_table_0 : decode cL_table 0 = .ok (.aload_n 3, 1) := by decide +kernel
theorem dL_table_1 : decode cL_table 1 = .ok (.aload_n 0, 1) := by decide +kernel
theorem dL_table_2 : decode cL_table 2 = .ok (.iload_n 1, 1) := by decide +kernel
theorem dL_table_3 : decode cL_table 3 = .ok (.iload_n 2, 1) := by decide +kernel
theorem dL_table_4 : decode cL_table 4 = .ok (.invokevirtual 66, 3) := by decide +kernel
theorem dL_table_7 : decode cL_table 7 = .ok (.putfield 58, 3) := by decide +kernel
theorem dL_table_10 : decode cL_table 10 = .ok (.goto 7, 3) := by decide +kernel
theorem dL_table_13 : decode cL_table 13 = .ok (.astore 4, 2) := by decide +kernel
theorem dL_table_15 : decode cL_table 15 = .ok (.iconst 1, 1) := by decide +kernel
theorem dL_table_16 : decode cL_table 16 = .ok (.ireturn, 1) := by decide +kernel
theorem dL_table_17 : decode cL_table 17 = .ok (.iconst 0, 1) := by decide +kernel
theorem dL_table_18 : decode cL_table 18 = .ok (.ireturn, 1) := by decide +kernel
set_option maxRecDepth 20000 in
theorem ggL_image_X6_image : GoodIn wsL_image wsX6_image := goodIn_ca (goodIn_r _ [6, 7, 8, 9, 5, 10, 11, 12, 13, 14, 15, 16, 17, 18, 19, 20, 21, 22, 23, 24, 25, 26, 27, 28, 29, 30, 31, 32, 33, 34, 35, 36, 37, 38, 39, 40, 41, 42, 43, 44, 45, 46, 47, 48, 49, 50, 51, 52, 53, 54, 55, 56, 57, 58, 59, 60, 61, 62, 63, 64, 65, 66, 67, 68, 69, 70, 71, 72, 73, 74, 75, 76, 77, 78, 79, 80, 81, 82, 83, 84, 85, 86, 87, 88, 89, 90, 91, 92, 93, 94, 95, 96, 97, 98, 99, 100, 101, 102, 103, 104, 105, 106, 107, 108, 111, 112, 113, 114, 115, 116, 117, 118, 119, 120, 121, 122, 123, 124, 125, 126, 127, 128, 129, 130, 131, 132, 133, 134, 135, 136] rfl (by decide +kernel)) (goodIn_sub (fun _ h => List.mem_cons_of_mem _ (List.mem_append_right _ h)) (by decide +kernel))
set_option maxRecDepth 20000 in
theorem gL_image_X6_image : GoodIn wsL_image (wsV RL 69 RX6 yX6_image wsX6_image) := goodIn_app (goodIn_of _ (by decide +kernel)) ggL_image_X6_image
theorem dL_image_0 : decode cL_image 0 = .ok (.aload_n 3, 1) := by decide +kernel
theorem dL_image_1 : decode cL_image 1 = .ok (.aload_n 0, 1) := by decide +kernel
theorem dL_image_2 : decode cL_image 2 = .ok (.iload_n 1, 1) := by decide +kernel
theorem dL_image_3 : decode cL_image 3 = .ok (.iload_n 2, 1) := by decide +kernel
theorem dL_image_4 : decode cL_image 4 = .ok (.invokevirtual 69, 3) := by decide +kernel
theorem dL_image_7 : decode cL_image 7 = .ok (.putfield 58, 3) := by decide +kernel
theorem dL_image_10 : decode cL_image 10 = .ok (.goto 7, 3) := by decide +kernel
theorem dL_image_13 : decode cL_image 13 = .ok (.astore 4, 2) := by decide +kernel
theorem dL_image_15 : decode cL_image 15 = .ok (.iconst 1, 1) := by decide +kernel
theorem dL_image_16 : decode cL_image 16 = .ok (.ireturn, 1) := by decide +kernel
theorem dL_image_17 : decode cL_image 17 = .ok (.iconst 0, 1) := by decide +kernel
theorem dL_image_18 : decode cL_image 18 = .ok (.ireturn, 1) := by decide +kernel
set_option maxRecDepth 20000 in
theorem ggL_many_X6_many : GoodIn wsL_many wsX6_many := goodIn_ca (goodIn_r _ [6, 7, 8, 9, 10, 11, 12, 13, 14, 15, 16, 17, 18, 5, 19, 20, 21, 22, 23, 24, 25, 26, 27, 28, 29, 30, 31, 32, 33, 34, 35, 36, 37, 38, 39, 40, 41, 42, 43, 44, 45, 46, 47, 48, 49, 50, 51, 52, 53, 54, 55, 56, 57, 58, 59, 60, 61, 62, 63, 64, 65, 66, 67, 68, 69, 70, 71, 72, 73, 74, 75, 76, 77, 78, 79, 80, 81, 82, 83, 84, 85, 86, 87, 88, 89, 90, 91, 92, 93, 94, 95, 96, 97, 98, 99, 100, 101, 102, 103, 104, 105, 106, 107, 108, 109, 110, 111, 112, 113, 114, 115, 116, 117, 118, 119, 120, 121, 122, 123, 124, 125, 126, 127, 128, 129, 130, 131, 132, 133, 134, 135, 136, 137, 138, 139, 140, 141, 142, 145, 146, 147, 148, 149, 150, 151, 152, 153, 154, 155, 156, 157, 158, 159, 160, 161, 162, 163, 164, 165, 166, 167, 168, 169, 170, 171, 172, 173, 174, 175, 176, 177, 178, 179, 180] rfl (by decide +kernel)) (goodIn_sub (fun _ h => List.mem_cons_of_mem _ (List.mem_append_right _ h)) (by decide +kernel))
set_option maxRecDepth 20000 in
theorem gL_many_X6_many : GoodIn wsL_many (wsV RL 72 RX6 yX6_many wsX6_many) := goodIn_app (goodIn_of _ (by decide +kernel)) ggL_many_X6_many
theorem dL_many_0 : decode cL_many 0 = .ok (.aload_n 2, 1) := by decide +kernel
theorem dL_many_1 : decode cL_many 1 = .ok (.aload_n 0, 1) := by decide +kernel
theorem dL_many_2 : decode cL_many 2 = .ok (.iload_n 1, 1) := by decide +kernel
theorem dL_many_3 : decode cL_many 3 = .ok (.invokevirtual 72, 3) := by decide +kernel
theorem dL_many_6 : decode cL_many 6 = .ok (.i2l, 1) := by decide +kernel
theorem dL_many_7 : decode cL_many 7 = .ok (.putfield 13, 3) := by decide +kernel
theorem dL_many_10 : decode cL_many 10 = .ok (.goto 6, 3) := by decide +kernel
theorem dL_many_13 : decode cL_many 13 = .ok (.astore_n 3, 1) := by decide +kernel
theorem dL_many_14 : decode cL_many 14 = .ok (.iconst 1, 1) := by decide +kernel
theorem dL_many_15 : decode cL_many 15 = .ok (.ireturn, 1) := by decide +kernel
theorem dL_many_16 : decode cL_many 16 = .ok (.iconst 0, 1) := by decide +kernel
theorem dL_many_17 : decode cL_many 17 = .ok (.ireturn, 1) := by decide +kernel
set_option maxRecDepth 20000 in
theorem ggL_through_X6_through : GoodIn wsL_through wsX6_through := goodIn_ca (goodIn_r _ [6, 7, 8, 9, 10, 11, 5, 12, 13, 14, 15, 16, 17, 18, 19, 20, 21, 22, 23, 24, 25, 26, 27, 28, 29, 30, 31, 32, 33, 34, 35, 36, 37, 38, 39, 40, 41, 42, 43, 44, 45, 46, 47, 48, 49, 50, 51, 52, 53, 54, 55, 56, 57, 58, 59, 60, 61, 62, 63, 64, 65, 66, 67, 68, 69, 70, 71, 72, 73, 74, 75, 76, 77, 78, 79, 80, 81, 82, 83, 84, 85, 86, 87, 88, 89, 90, 91, 92, 93, 94, 95, 96, 97, 98, 99, 100, 101, 102, 103, 106, 107, 108, 109, 110, 111, 112, 113, 114, 115, 116, 117, 118, 119, 120, 121, 122, 123, 124, 125, 126, 127, 128, 129, 130, 131, 132, 133, 134, 135] rfl (by decide +kernel)) (goodIn_sub (fun _ h => List.mem_cons_of_mem _ (List.mem_append_right _ h)) (by decide +kernel))
set_option maxRecDepth 20000 in
theorem gL_through_X6_through : GoodIn wsL_through (wsV RL 75 RX6 yX6_through wsX6_through) := goodIn_app (goodIn_of _ (by decide +kernel)) ggL_through_X6_through
theorem dL_through_0 : decode cL_through 0 = .ok (.aload_n 2, 1) := by decide +kernel
theorem dL_through_1 : decode cL_through 1 = .ok (.aload_n 0, 1) := by decide +kernel
theorem dL_through_2 : decode cL_through 2 = .ok (.iload_n 1, 1) := by decide +kernel
theorem dL_through_3 : decode cL_through 3 = .ok (.invokevirtual 75, 3) := by decide +kernel
theorem dL_through_6 : decode cL_through 6 = .ok (.i2l, 1) := by decide +kernel
theorem dL_through_7 : decode cL_through 7 = .ok (.putfield 13, 3) := by decide +kernel
theorem dL_through_10 : decode cL_through 10 = .ok (.goto 6, 3) := by decide +kernel
theorem dL_through_13 : decode cL_through 13 = .ok (.astore_n 3, 1) := by decide +kernel
theorem dL_through_14 : decode cL_through 14 = .ok (.iconst 1, 1) := by decide +kernel
theorem dL_through_15 : decode cL_through 15 = .ok (.ireturn, 1) := by decide +kernel
theorem dL_through_16 : decode cL_through 16 = .ok (.iconst 0, 1) := by decide +kernel
theorem dL_through_17 : decode cL_through 17 = .ok (.ireturn, 1) := by decide +kernel
set_option maxRecDepth 20000 in
theorem ggL_blur_X6_blur : GoodIn wsL_blur wsX6_blur := goodIn_ca (goodIn_r _ [6, 7, 8, 9, 5, 10, 11, 12, 13, 14, 15, 16, 17, 18, 19, 20, 21, 22, 23, 24, 25, 26, 27, 28, 29, 30, 31, 32, 33, 34, 35, 36, 37, 38, 39, 40, 41, 42, 43, 44, 45, 46, 47, 48, 49, 50, 51, 52, 53, 54, 55, 56, 57, 58, 59, 60, 61, 62, 63, 64, 65, 66, 67, 68, 69, 70, 71, 72, 73, 74, 75, 76, 77, 78, 79, 80, 81, 82, 83, 84, 85, 86, 87, 88, 89, 90, 91, 92, 93, 94, 95, 96, 97, 100, 101, 102, 103, 104, 105, 106, 107, 108, 109, 110, 111, 112, 113, 114, 115, 116, 117, 118, 119, 120, 121, 122, 123, 124, 125, 126, 127, 128, 129] rfl (by decide +kernel)) (goodIn_sub (fun _ h => List.mem_cons_of_mem _ (List.mem_append_right _ h)) (by decide +kernel))
set_option maxRecDepth 20000 in
theorem gL_blur_X6_blur : GoodIn wsL_blur (wsV RL 78 RX6 yX6_blur wsX6_blur) := goodIn_app (goodIn_of _ (by decide +kernel)) ggL_blur_X6_blur
theorem dL_blur_0 : decode cL_blur 0 = .ok (.aload_n 2, 1) := by decide +kernel
theorem dL_blur_1 : decode cL_blur 1 = .ok (.aload_n 0, 1) := by decide +kernel
theorem dL_blur_2 : decode cL_blur 2 = .ok (.iload_n 1, 1) := by decide +kernel
theorem dL_blur_3 : decode cL_blur 3 = .ok (.invokevirtual 78, 3) := by decide +kernel
theorem dL_blur_6 : decode cL_blur 6 = .ok (.putfield 58, 3) := by decide +kernel
theorem dL_blur_9 : decode cL_blur 9 = .ok (.goto 6, 3) := by decide +kernel
theorem dL_blur_12 : decode cL_blur 12 = .ok (.astore_n 3, 1) := by decide +kernel
theorem dL_blur_13 : decode cL_blur 13 = .ok (.iconst 1, 1) := by decide +kernel
theorem dL_blur_14 : decode cL_blur 14 = .ok (.ireturn, 1) := by decide +kernel
theorem dL_blur_15 : decode cL_blur 15 = .ok (.iconst 0, 1) := by decide +kernel
theorem dL_blur_16 : decode cL_blur 16 = .ok (.ireturn, 1) := by decide +kernel
set_option maxRecDepth 20000 in
theorem ggL_sharp_X6_sharp : GoodIn wsL_sharp wsX6_sharp := goodIn_ca (goodIn_r _ [6, 7, 8, 9, 10, 11, 12, 5, 13, 14, 15, 16, 17, 18, 19, 20, 21, 22, 23, 24, 25, 26, 27, 28, 29, 30, 31, 32, 33, 34, 35, 36, 37, 38, 39, 40, 41, 42, 43, 44, 45, 46, 47, 48, 49, 50, 51, 52, 53, 54, 55, 56, 57, 58, 59, 60, 61, 62, 63, 64, 65, 66, 67, 68, 69, 70, 71, 72, 73, 74, 75, 76, 77, 78, 79, 80, 81, 82, 83, 84, 85, 86, 87, 88, 89, 90, 91, 92, 93, 94, 95, 96, 97, 98, 99, 100, 101, 102, 103, 104, 105, 106, 107, 108, 109, 110, 111, 112, 115, 116, 117, 118, 119, 120, 121, 122, 123, 124, 125, 126, 127, 128, 129, 130, 131, 132, 133, 134, 135, 136, 137, 138, 139, 140, 141, 142, 143, 144, 145, 146] rfl (by decide +kernel)) (goodIn_sub (fun _ h => List.mem_cons_of_mem _ (List.mem_append_right _ h)) (by decide +kernel))
set_option maxRecDepth 20000 in
theorem gL_sharp_X6_sharp : GoodIn wsL_sharp (wsV RL 82 RX6 yX6_sharp wsX6_sharp) := goodIn_app (goodIn_of _ (by decide +kernel)) ggL_sharp_X6_sharp
theorem dL_sharp_0 : decode cL_sharp 0 = .ok (.aload_n 2, 1) := by decide +kernel
theorem dL_sharp_1 : decode cL_sharp 1 = .ok (.aload_n 0, 1) := by decide +kernel
theorem dL_sharp_2 : decode cL_sharp 2 = .ok (.iload_n 1, 1) := by decide +kernel
theorem dL_sharp_3 : decode cL_sharp 3 = .ok (.invokevirtual 82, 3) := by decide +kernel
theorem dL_sharp_6 : decode cL_sharp 6 = .ok (.i2l, 1) := by decide +kernel
theorem dL_sharp_7 : decode cL_sharp 7 = .ok (.putfield 13, 3) := by decide +kernel
theorem dL_sharp_10 : decode cL_sharp 10 = .ok (.goto 6, 3) := by decide +kernel
theorem dL_sharp_13 : decode cL_sharp 13 = .ok (.astore_n 3, 1) := by decide +kernel
theorem dL_sharp_14 : decode cL_sharp 14 = .ok (.iconst 1, 1) := by decide +kernel
theorem dL_sharp_15 : decode cL_sharp 15 = .ok (.ireturn, 1) := by decide +kernel
theorem dL_sharp_16 : decode cL_sharp 16 = .ok (.iconst 0, 1) := by decide +kernel
theorem dL_sharp_17 : decode cL_sharp 17 = .ok (.ireturn, 1) := by decide +kernel
set_option maxRecDepth 20000 in
theorem ggL_best_X6_best : GoodIn wsL_best wsX6_best := goodIn_ca (goodIn_ca (goodIn_r _ [7, 8, 9, 10, 11, 12, 13, 14, 15, 6, 16, 17, 18, 19, 20, 21, 22, 23, 24, 25, 26, 27, 28, 29, 30, 31, 32, 33, 34, 35, 36, 37, 38, 39, 40, 41, 42, 43, 44, 45, 46, 47, 48, 49, 50, 51, 52, 53, 54, 55, 56, 57, 58, 59, 60, 61, 62, 63, 64, 65, 66, 67, 68, 69, 70, 71, 72, 73, 74, 75, 76, 77, 78, 79, 80, 81, 82, 83, 84, 85, 86, 87, 88, 89, 90, 91, 92, 93, 94, 95, 96, 97, 98, 99, 100, 101, 102, 103, 104, 105, 106, 107, 108, 109, 110, 111, 112, 113, 114, 115, 116, 117, 118, 119, 122, 123, 124, 125, 126, 127, 128, 129, 130, 131, 132, 133, 134, 135, 136, 137, 138, 139, 140, 141, 142, 143, 144, 145, 146, 147, 148, 149, 150, 151, 152, 153] rfl (by decide +kernel)) (goodIn_sub (fun _ h => List.mem_cons_of_mem _ (List.mem_append_left _ (List.mem_append_right _ h))) (by decide +kernel))) (goodIn_sub (fun _ h => List.mem_cons_of_mem _ (List.mem_append_right _ h)) (by decide +kernel))
set_option maxRecDepth 20000 in
theorem gL_best_X6_best : GoodIn wsL_best (wsV RL 85 RX6 yX6_best wsX6_best) := goodIn_app (goodIn_of _ (by decide +kernel)) ggL_best_X6_best
theorem dL_best_0 : decode cL_best 0 = .ok (.aload_n 3, 1) := by decide +kernel
theorem dL_best_1 : decode cL_best 1 = .ok (.aload_n 0, 1) := by decide +kernel
theorem dL_best_2 : decode cL_best 2 = .ok (.iload_n 1, 1) := by decide +kernel
theorem dL_best_3 : decode cL_best 3 = .ok (.iload_n 2, 1) := by decide +kernel
theorem dL_best_4 : decode cL_best 4 = .ok (.invokevirtual 85, 3) := by decide +kernel
theorem dL_best_7 : decode cL_best 7 = .ok (.i2l, 1) := by decide +kernel
theorem dL_best_8 : decode cL_best 8 = .ok (.putfield 13, 3) := by decide +kernel
theorem dL_best_11 : decode cL_best 11 = .ok (.goto 11, 3) := by decide +kernel
theorem dL_best_14 : decode cL_best 14 = .ok (.astore 4, 2) := by decide +kernel
theorem dL_best_16 : decode cL_best 16 = .ok (.iconst 1, 1) := by decide +kernel
theorem dL_best_17 : decode cL_best 17 = .ok (.ireturn, 1) := by decide +kernel
theorem dL_best_18 : decode cL_best 18 = .ok (.astore 4, 2) := by decide +kernel
theorem dL_best_20 : decode cL_best 20 = .ok (.iconst 2, 1) := by decide +kernel
theorem dL_best_21 : decode cL_best 21 = .ok (.ireturn, 1) := by decide +kernel
theorem dL_best_22 : decode cL_best 22 = .ok (.iconst 0, 1) := by decide +kernel
theorem dL_best_23 : decode cL_best 23 = .ok (.ireturn, 1) := by decide +kernel
set_option maxRecDepth 20000 in
theorem ggL_without_X6_without : GoodIn wsL_without wsX6_without := goodIn_ca (goodIn_r _ [6, 7, 8, 9, 10, 5, 11, 12, 13, 14, 15, 16, 17, 18, 19, 20, 21, 22, 23, 24, 25, 26, 27, 28, 29, 30, 31, 32, 33, 34, 35, 36, 37, 38, 39, 40, 41, 42, 43, 44, 45, 46, 47, 48, 49, 50, 51, 52, 53, 54, 55, 56, 57, 58, 59, 60, 61, 62, 63, 64, 65, 66, 67, 68, 69, 70, 71, 72, 73, 74, 75, 76, 77, 78, 79, 80, 81, 82, 83, 84, 85, 86, 87, 88, 89, 90, 91, 94, 95, 96, 97, 98, 99, 100, 101, 102, 103, 104, 105, 106, 107, 108, 109, 110, 111, 112, 113, 114, 115, 116, 117, 118, 119, 120, 121, 122, 123] rfl (by decide +kernel)) (goodIn_sub (fun _ h => List.mem_cons_of_mem _ (List.mem_append_right _ h)) (by decide +kernel))
set_option maxRecDepth 20000 in
theorem gL_without_X6_without : GoodIn wsL_without (wsV RL 88 RX6 yX6_without wsX6_without) := goodIn_app (goodIn_of _ (by decide +kernel)) ggL_without_X6_without
theorem dL_without_0 : decode cL_without 0 = .ok (.aload_n 2, 1) := by decide +kernel
theorem dL_without_1 : decode cL_without 1 = .ok (.aload_n 0, 1) := by decide +kernel
theorem dL_without_2 : decode cL_without 2 = .ok (.iload_n 1, 1) := by decide +kernel
theorem dL_without_3 : decode cL_without 3 = .ok (.invokevirtual 88, 3) := by decide +kernel
theorem dL_without_6 : decode cL_without 6 = .ok (.i2l, 1) := by decide +kernel
theorem dL_without_7 : decode cL_without 7 = .ok (.putfield 13, 3) := by decide +kernel
theorem dL_without_10 : decode cL_without 10 = .ok (.goto 6, 3) := by decide +kernel
theorem dL_without_13 : decode cL_without 13 = .ok (.astore_n 3, 1) := by decide +kernel
theorem dL_without_14 : decode cL_without 14 = .ok (.iconst 1, 1) := by decide +kernel
theorem dL_without_15 : decode cL_without 15 = .ok (.ireturn, 1) := by decide +kernel
theorem dL_without_16 : decode cL_without 16 = .ok (.iconst 0, 1) := by decide +kernel
theorem dL_without_17 : decode cL_without 17 = .ok (.ireturn, 1) := by decide +kernel
