set_option maxRecDepth 20000 in
theorem ggL_law_X6_init : GoodIn wsL_law wsX6_init := goodIn_r _ [11, 12, 13, 14, 15, 16, 17, 18, 19, 20, 21, 22, 23, 24, 25, 26, 27, 28, 29, 30, 31, 32, 33, 34, 35, 36, 37, 38, 39, 40, 41, 42, 43, 44, 45, 46, 47, 48, 49, 50, 51, 52, 53, 54, 55, 56, 57, 58, 59, 60, 61, 62, 63, 64, 65, 66, 67, 68, 69, 70, 71, 72, 73, 994, 995, 996, 997, 998, 999, 1000, 1001, 1002, 1003, 1004, 1005, 1006, 1007, 1008, 1025, 1026, 1027, 1028, 1029, 1030, 1031, 1032, 1033, 1034, 1035, 1036, 1037, 1038, 1039, 1040, 1041, 1042, 1043, 1044, 1045, 1046, 1047] rfl (by decide +kernel)
set_option maxRecDepth 20000 in
theorem gL_law_X6_init : GoodIn wsL_law (wsX6_init) := ggL_law_X6_init
set_option maxRecDepth 20000 in
theorem ggL_law_X8_init : GoodIn wsL_law wsX8_init := goodIn_r _ [76, 77, 13, 14, 15, 78, 79, 80, 81, 82, 83, 1009, 1010, 1011, 1012, 1013, 1014, 1015, 1016, 1017, 1018, 1019, 1020, 1021, 1022] rfl (by decide +kernel)
set_option maxRecDepth 20000 in
theorem gL_law_X8_init : GoodIn wsL_law (wsX8_init) := ggL_law_X8_init
set_option maxRecDepth 20000 in
theorem ggL_law_X7_init : GoodIn wsL_law wsX7_init := goodIn_r _ [85, 86, 13, 14] rfl (by decide +kernel)
set_option maxRecDepth 20000 in
theorem gL_law_X7_init_n95 : GoodIn wsL_law (wsX7_init) := ggL_law_X7_init
set_option maxRecDepth 20000 in
theorem ggL_law_L_lens : GoodIn wsL_law wsL_lens := goodIn_ca (goodIn_ca (goodIn_ca (goodIn_r _ [90, 91, 92, 93, 94, 95, 96, 2, 97, 98, 99, 100, 101, 102, 103, 104, 105, 106, 107, 108, 109, 110, 111, 112, 113, 114, 16, 17, 18, 19, 115, 116, 117, 118, 1023, 1024, 994, 995, 996, 997, 998, 999, 1000, 1001, 1002, 1003, 1004, 1005, 1006, 1007, 1008] rfl (by decide +kernel)) (goodIn_sub (fun _ h => List.mem_append_left _ (List.mem_append_left _ (List.mem_append_right _ h))) (by decide +kernel))) (goodIn_sub (fun _ h => List.mem_append_left _ (List.mem_append_right _ h)) (by decide +kernel))) (goodIn_sub (fun _ h => List.mem_append_right _ h) (by decide +kernel))
set_option maxRecDepth 20000 in
theorem gL_law_L_lens : GoodIn wsL_law (va_wsS RL 96 yL_lens wsL_lens) := goodIn_app (goodIn_of _ (by decide +kernel)) ggL_law_L_lens
set_option maxRecDepth 20000 in
theorem ggL_law_X8_lens : GoodIn wsL_law wsX8_lens := goodIn_r _ [122, 123, 124, 125, 5, 126, 127, 128, 129, 130, 131, 132, 133, 134, 135, 78, 79, 80, 81, 136, 137, 138, 139, 1009, 1010, 1011, 1012, 1013, 1014, 1015, 1016, 1017, 1018, 1019, 1020, 1021, 1022] rfl (by decide +kernel)
set_option maxRecDepth 20000 in
theorem gL_law_X8_lens : GoodIn wsL_law (wsV RL 101 RX8 yX8_lens wsX8_lens) := goodIn_app (goodIn_of _ (by decide +kernel)) ggL_law_X8_lens
set_option maxRecDepth 20000 in
theorem ggL_law_X8_thrown : GoodIn wsL_law wsX8_thrown := goodIn_r _ [143, 123, 1009, 1010, 1011, 1012, 1013, 1014, 1015, 1016, 1017, 1018, 1019, 1020, 1021, 1022] rfl (by decide +kernel)
set_option maxRecDepth 20000 in
theorem gL_law_X8_thrown : GoodIn wsL_law (wsV RL 102 RX8 yX8_thrown wsX8_thrown) := goodIn_app (goodIn_of _ (by decide +kernel)) ggL_law_X8_thrown
set_option maxRecDepth 20000 in
theorem ggL_law_L_stop : GoodIn wsL_law wsL_stop := goodIn_ca (goodIn_ca (goodIn_ca (goodIn_r _ [146, 91, 92, 93, 147, 148, 149, 2, 150, 100, 101, 102, 103, 104, 105, 106, 107, 98, 99, 108, 109, 110, 111, 112, 113, 114, 16, 17, 18, 19, 115, 116, 117, 118, 1023, 1024, 994, 995, 996, 997, 998, 999, 1000, 1001, 1002, 1003, 1004, 1005, 1006, 1007, 1008] rfl (by decide +kernel)) (goodIn_sub (fun _ h => List.mem_append_left _ (List.mem_append_right _ h)) (by decide +kernel))) (goodIn_sub (fun _ h => List.mem_append_left _ (List.mem_append_left _ (List.mem_append_right _ h))) (by decide +kernel))) (goodIn_sub (fun _ h => List.mem_append_right _ h) (by decide +kernel))
set_option maxRecDepth 20000 in
theorem gL_law_L_stop : GoodIn wsL_law (va_wsS RL 106 yL_stop wsL_stop) := goodIn_app (goodIn_of _ (by decide +kernel)) ggL_law_L_stop
set_option maxRecDepth 20000 in
theorem ggL_law_X8_stop : GoodIn wsL_law wsX8_stop := goodIn_r _ [154, 123, 124, 125, 5, 126, 127, 128, 129, 130, 131, 132, 133, 134, 135, 78, 79, 80, 81, 136, 137, 138, 139, 1009, 1010, 1011, 1012, 1013, 1014, 1015, 1016, 1017, 1018, 1019, 1020, 1021, 1022] rfl (by decide +kernel)
set_option maxRecDepth 20000 in
theorem gL_law_X8_stop : GoodIn wsL_law (wsV RL 109 RX8 yX8_stop wsX8_stop) := goodIn_app (goodIn_of _ (by decide +kernel)) ggL_law_X8_stop
set_option maxRecDepth 20000 in
theorem ggL_law_L_take : GoodIn wsL_law wsL_take := goodIn_ca (goodIn_r _ [157, 91, 158, 159, 160, 2, 161, 16, 114, 17, 18, 19, 162, 163, 164, 165, 103, 104, 166, 167, 168, 169, 1023, 1024, 994, 995, 996, 997, 998, 999, 1000, 1001, 1002, 1003, 1004, 1005, 1006, 1007, 1008] rfl (by decide +kernel)) (goodIn_sub (fun _ h => List.mem_append_left _ (List.mem_append_right _ h)) (by decide +kernel))
set_option maxRecDepth 20000 in
theorem gL_law_L_take : GoodIn wsL_law (va_wsS RL 110 yL_take wsL_take) := goodIn_app (goodIn_of _ (by decide +kernel)) ggL_law_L_take
set_option maxRecDepth 20000 in
theorem ggL_law_X8_take : GoodIn wsL_law wsX8_take := goodIn_r _ [173, 123, 78, 135, 79, 80, 81, 174, 175, 176, 5, 177, 124, 125, 126, 127, 128, 129, 130, 1009, 1010, 1011, 1012, 1013, 1014, 1015, 1016, 1017, 1018, 1019, 1020, 1021, 1022] rfl (by decide +kernel)
set_option maxRecDepth 20000 in
theorem gL_law_X8_take : GoodIn wsL_law (wsV RL 113 RX8 yX8_take wsX8_take) := goodIn_app (goodIn_of _ (by decide +kernel)) ggL_law_X8_take
set_option maxRecDepth 20000 in
theorem ggL_law_L_move : GoodIn wsL_law wsL_move := goodIn_ca (goodIn_ca (goodIn_r _ [180, 91, 93, 181, 182, 183, 2, 184, 112, 113, 16, 162, 163, 164, 165, 103, 104, 166, 167, 168, 169, 114, 100, 101, 102, 115, 116, 117, 118, 1023, 1024, 994, 995, 996, 997, 998, 999, 1000, 1001, 1002, 1003, 1004, 1005, 1006, 1007, 1008] rfl (by decide +kernel)) (goodIn_sub (fun _ h => List.mem_append_right _ h) (by decide +kernel))) (goodIn_sub (fun _ h => List.mem_append_left _ (List.mem_append_right _ h)) (by decide +kernel))
set_option maxRecDepth 20000 in
theorem gL_law_L_move : GoodIn wsL_law (va_wsS RL 114 yL_move wsL_move) := goodIn_app (goodIn_of _ (by decide +kernel)) ggL_law_L_move
set_option maxRecDepth 20000 in
theorem ggL_law_X8_move : GoodIn wsL_law wsX8_move := goodIn_r _ [188, 123, 78, 174, 175, 176, 5, 177, 135, 124, 125, 126, 127, 128, 129, 130, 136, 137, 138, 139, 1009, 1010, 1011, 1012, 1013, 1014, 1015, 1016, 1017, 1018, 1019, 1020, 1021, 1022] rfl (by decide +kernel)
set_option maxRecDepth 20000 in
theorem gL_law_X8_move : GoodIn wsL_law (wsV RL 116 RX8 yX8_move wsX8_move) := goodIn_app (goodIn_of _ (by decide +kernel)) ggL_law_X8_move
set_option maxRecDepth 20000 in
theorem ggL_law_L_half : GoodIn wsL_law wsL_half := goodIn_ca (goodIn_ca (goodIn_r _ [191, 91, 92, 192, 193, 194, 2, 195, 17, 162, 163, 164, 165, 103, 104, 166, 167, 168, 169, 114, 105, 106, 107, 98, 99, 1023, 1024, 994, 995, 996, 997, 998, 999, 1000, 1001, 1002, 1003, 1004, 1005, 1006, 1007, 1008] rfl (by decide +kernel)) (goodIn_sub (fun _ h => List.mem_append_left _ (List.mem_append_right _ h)) (by decide +kernel))) (goodIn_sub (fun _ h => List.mem_append_left _ (List.mem_append_left _ (List.mem_append_right _ h))) (by decide +kernel))
set_option maxRecDepth 20000 in
theorem gL_law_L_half : GoodIn wsL_law (va_wsS RL 117 yL_half wsL_half) := goodIn_app (goodIn_of _ (by decide +kernel)) ggL_law_L_half
set_option maxRecDepth 20000 in
theorem ggL_law_X8_half : GoodIn wsL_law wsX8_half := goodIn_r _ [199, 123, 79, 174, 175, 176, 5, 177, 135, 124, 125, 126, 127, 128, 129, 130, 1009, 1010, 1011, 1012, 1013, 1014, 1015, 1016, 1017, 1018, 1019, 1020, 1021, 1022] rfl (by decide +kernel)
set_option maxRecDepth 20000 in
theorem gL_law_X8_half : GoodIn wsL_law (wsV RL 119 RX8 yX8_half wsX8_half) := goodIn_app (goodIn_of _ (by decide +kernel)) ggL_law_X8_half
set_option maxRecDepth 20000 in
theorem ggL_law_L_swap : GoodIn wsL_law wsL_swap := goodIn_ca (goodIn_r _ [202, 91, 203, 204, 205, 2, 206, 16, 162, 163, 164, 165, 103, 104, 166, 167, 168, 169, 114, 1023, 1024, 994, 995, 996, 997, 998, 999, 1000, 1001, 1002, 1003, 1004, 1005, 1006, 1007, 1008] rfl (by decide +kernel)) (goodIn_sub (fun _ h => List.mem_append_left _ (List.mem_append_right _ h)) (by decide +kernel))
set_option maxRecDepth 20000 in
theorem gL_law_L_swap : GoodIn wsL_law (va_wsS RL 120 yL_swap wsL_swap) := goodIn_app (goodIn_of _ (by decide +kernel)) ggL_law_L_swap
set_option maxRecDepth 20000 in
theorem ggL_law_X8_swap : GoodIn wsL_law wsX8_swap := goodIn_r _ [210, 123, 78, 174, 175, 176, 5, 177, 135, 124, 125, 126, 127, 128, 129, 130, 1009, 1010, 1011, 1012, 1013, 1014, 1015, 1016, 1017, 1018, 1019, 1020, 1021, 1022] rfl (by decide +kernel)
set_option maxRecDepth 20000 in
theorem gL_law_X8_swap : GoodIn wsL_law (wsV RL 122 RX8 yX8_swap wsX8_swap) := goodIn_app (goodIn_of _ (by decide +kernel)) ggL_law_X8_swap
set_option maxRecDepth 20000 in
theorem ggL_law_L_thing : GoodIn wsL_law wsL_thing := goodIn_ca (goodIn_ca (goodIn_r _ [213, 91, 93, 214, 215, 216, 2, 217, 112, 113, 20, 218, 100, 101, 102, 103, 104, 1023, 1024, 994, 995, 996, 997, 998, 999, 1000, 1001, 1002, 1003, 1004, 1005, 1006, 1007, 1008] rfl (by decide +kernel)) (goodIn_sub (fun _ h => List.mem_append_right _ h) (by decide +kernel))) (goodIn_sub (fun _ h => List.mem_append_left _ (List.mem_append_right _ h)) (by decide +kernel))
set_option maxRecDepth 20000 in
theorem gL_law_L_thing : GoodIn wsL_law (va_wsS RL 123 yL_thing wsL_thing) := goodIn_app (goodIn_of _ (by decide +kernel)) ggL_law_L_thing
set_option maxRecDepth 20000 in
theorem ggL_law_X8_thing : GoodIn wsL_law wsX8_thing := goodIn_r _ [222, 123, 82, 223, 124, 125, 5, 126, 127, 128, 129, 130, 1009, 1010, 1011, 1012, 1013, 1014, 1015, 1016, 1017, 1018, 1019, 1020, 1021, 1022] rfl (by decide +kernel)
set_option maxRecDepth 20000 in
theorem gL_law_X8_thing : GoodIn wsL_law (wsV RL 125 RX8 yX8_thing wsX8_thing) := goodIn_app (goodIn_of _ (by decide +kernel)) ggL_law_X8_thing
set_option maxRecDepth 20000 in
theorem ggL_law_L_screen : GoodIn wsL_law wsL_screen := goodIn_ca (goodIn_ca (goodIn_r _ [226, 91, 93, 227, 228, 229, 2, 230, 112, 113, 218, 20, 100, 101, 102, 103, 104, 1023, 1024, 994, 995, 996, 997, 998, 999, 1000, 1001, 1002, 1003, 1004, 1005, 1006, 1007, 1008] rfl (by decide +kernel)) (goodIn_sub (fun _ h => List.mem_append_right _ h) (by decide +kernel))) (goodIn_sub (fun _ h => List.mem_append_left _ (List.mem_append_right _ h)) (by decide +kernel))
set_option maxRecDepth 20000 in
theorem gL_law_L_screen : GoodIn wsL_law (va_wsS RL 126 yL_screen wsL_screen) := goodIn_app (goodIn_of _ (by decide +kernel)) ggL_law_L_screen
set_option maxRecDepth 20000 in
theorem ggL_law_X8_screen : GoodIn wsL_law wsX8_screen := goodIn_r _ [234, 123, 223, 82, 124, 125, 5, 126, 127, 128, 129, 130, 1009, 1010, 1011, 1012, 1013, 1014, 1015, 1016, 1017, 1018, 1019, 1020, 1021, 1022] rfl (by decide +kernel)
set_option maxRecDepth 20000 in
theorem gL_law_X8_screen : GoodIn wsL_law (wsV RL 128 RX8 yX8_screen wsX8_screen) := goodIn_app (goodIn_of _ (by decide +kernel)) ggL_law_X8_screen
set_option maxRecDepth 20000 in
theorem ggL_law_L_tall : GoodIn wsL_law wsL_tall := goodIn_ca (goodIn_r _ [237, 92, 238, 239, 240, 2, 241, 98, 99, 21, 1023, 1024, 994, 995, 996, 997, 998, 999, 1000, 1001, 1002, 1003, 1004, 1005, 1006, 1007, 1008] rfl (by decide +kernel)) (goodIn_sub (fun _ h => List.mem_append_left _ (List.mem_append_left _ (List.mem_append_right _ h))) (by decide +kernel))
set_option maxRecDepth 20000 in
theorem gL_law_L_tall : GoodIn wsL_law (va_wsS RL 129 yL_tall wsL_tall) := goodIn_app (goodIn_of _ (by decide +kernel)) ggL_law_L_tall
set_option maxRecDepth 20000 in
theorem ggL_law_X8_tall : GoodIn wsL_law wsX8_tall := goodIn_r _ [245, 123, 83, 124, 125, 5, 126, 127, 128, 129, 130, 1009, 1010, 1011, 1012, 1013, 1014, 1015, 1016, 1017, 1018, 1019, 1020, 1021, 1022] rfl (by decide +kernel)
set_option maxRecDepth 20000 in
theorem gL_law_X8_tall : GoodIn wsL_law (wsV RL 131 RX8 yX8_tall wsX8_tall) := goodIn_app (goodIn_of _ (by decide +kernel)) ggL_law_X8_tall
set_option maxRecDepth 20000 in
theorem ggL_law_X6_rattle : GoodIn wsL_law wsX6_rattle := goodIn_r _ [249, 250, 994, 995, 996, 997, 998, 999, 1000, 1001, 1002, 1003, 1004, 1005, 1006, 1007, 1008] rfl (by decide +kernel)
set_option maxRecDepth 20000 in
theorem gL_law_X6_rattle : GoodIn wsL_law (wsV RL 132 RX6 yX6_rattle wsX6_rattle) := goodIn_app (goodIn_of _ (by decide +kernel)) ggL_law_X6_rattle
set_option maxRecDepth 20000 in
theorem ggL_law_X8_rattle : GoodIn wsL_law wsX8_rattle := goodIn_r _ [254, 123, 255, 1009, 1010, 1011, 1012, 1013, 1014, 1015, 1016, 1017, 1018, 1019, 1020, 1021, 1022] rfl (by decide +kernel)
set_option maxRecDepth 20000 in
theorem gL_law_X8_rattle : GoodIn wsL_law (wsV RL 135 RX8 yX8_rattle wsX8_rattle) := goodIn_app (goodIn_of _ (by decide +kernel)) ggL_law_X8_rattle
set_option maxRecDepth 20000 in
theorem ggL_law_L_ofPiece : GoodIn wsL_law wsL_ofPiece := goodIn_ca (goodIn_ca (goodIn_r _ [258, 91, 92, 259, 260, 261, 2, 262, 16, 17, 18, 19, 25, 162, 163, 164, 165, 103, 104, 166, 167, 168, 169, 114, 263, 264, 265, 98, 99, 266, 267, 268, 269, 20, 270, 271, 272, 273, 218, 274, 275, 276, 24, 277, 278, 279, 280, 281, 282, 283, 284, 285, 286, 287, 288, 289, 290, 51, 50, 52, 54, 291, 292, 293, 294, 1023, 1024, 994, 995, 996, 997, 998, 999, 1000, 1001, 1002, 1003, 1004, 1005, 1006, 1007, 1008, 1025, 1026, 1027, 1028, 1029, 1030, 1031] rfl (by decide +kernel)) (goodIn_sub (fun _ h => List.mem_append_left _ (List.mem_append_right _ h)) (by decide +kernel))) (goodIn_sub (fun _ h => List.mem_append_left _ (List.mem_append_left _ (List.mem_append_right _ h))) (by decide +kernel))
set_option maxRecDepth 20000 in
theorem gL_law_L_ofPiece : GoodIn wsL_law (va_wsS RL 136 yL_ofPiece wsL_ofPiece) := goodIn_app (goodIn_of _ (by decide +kernel)) ggL_law_L_ofPiece
set_option maxRecDepth 20000 in
theorem ggL_law_X8_ofPiece : GoodIn wsL_law wsX8_ofPiece := goodIn_r _ [298, 123, 174, 175, 176, 5, 177, 135, 124, 125, 126, 127, 128, 129, 130, 299, 300, 301, 302, 78, 79, 80, 81, 303, 304, 305, 306, 223, 307, 308, 309, 310, 82, 1009, 1010, 1011, 1012, 1013, 1014, 1015, 1016, 1017, 1018, 1019, 1020, 1021, 1022] rfl (by decide +kernel)
set_option maxRecDepth 20000 in
theorem gL_law_X8_ofPiece : GoodIn wsL_law (wsV RL 138 RX8 yX8_ofPiece wsX8_ofPiece) := goodIn_app (goodIn_of _ (by decide +kernel)) ggL_law_X8_ofPiece
set_option maxRecDepth 20000 in
theorem ggL_law_L_strength : GoodIn wsL_law wsL_strength := goodIn_ca (goodIn_ca (goodIn_r _ [313, 91, 92, 314, 315, 316, 2, 317, 18, 19, 162, 163, 164, 165, 103, 104, 166, 167, 168, 169, 114, 318, 319, 320, 98, 99, 281, 282, 283, 284, 285, 286, 321, 322, 323, 1023, 1024, 994, 995, 996, 997, 998, 999, 1000, 1001, 1002, 1003, 1004, 1005, 1006, 1007, 1008] rfl (by decide +kernel)) (goodIn_sub (fun _ h => List.mem_append_left _ (List.mem_append_right _ h)) (by decide +kernel))) (goodIn_sub (fun _ h => List.mem_append_left _ (List.mem_append_left _ (List.mem_append_right _ h))) (by decide +kernel))
set_option maxRecDepth 20000 in
theorem gL_law_L_strength : GoodIn wsL_law (va_wsS RL 139 yL_strength wsL_strength) := goodIn_app (goodIn_of _ (by decide +kernel)) ggL_law_L_strength
set_option maxRecDepth 20000 in
theorem ggL_law_X8_strength : GoodIn wsL_law wsX8_strength := goodIn_r _ [327, 123, 174, 175, 176, 5, 177, 135, 124, 125, 126, 328, 329, 330, 331, 80, 81, 332, 333, 334, 335, 336, 337, 1009, 1010, 1011, 1012, 1013, 1014, 1015, 1016, 1017, 1018, 1019, 1020, 1021, 1022] rfl (by decide +kernel)
set_option maxRecDepth 20000 in
theorem gL_law_X8_strength : GoodIn wsL_law (wsV RL 141 RX8 yX8_strength wsX8_strength) := goodIn_app (goodIn_of _ (by decide +kernel)) ggL_law_X8_strength
set_option maxRecDepth 20000 in
theorem ggL_law_L_ray : GoodIn wsL_law wsL_ray := goodIn_ca (goodIn_r _ [340, 92, 341, 342, 343, 2, 344, 98, 99, 29, 25, 345, 286, 346, 347, 348, 318, 319, 320, 263, 264, 265, 266, 267, 268, 269, 20, 270, 271, 272, 273, 218, 114, 16, 17, 18, 19, 274, 275, 276, 24, 277, 278, 279, 280, 281, 282, 283, 284, 285, 287, 288, 289, 290, 51, 50, 52, 54, 349, 350, 351, 28, 352, 353, 354, 355, 356, 357, 358, 359, 360, 361, 362, 363, 321, 322, 323, 364, 365, 366, 367, 1023, 1024, 994, 995, 996, 997, 998, 999, 1000, 1001, 1002, 1003, 1004, 1005, 1006, 1007, 1008, 1032, 1033, 1034, 1025, 1026, 1027, 1028, 1029, 1030, 1031] rfl (by decide +kernel)) (goodIn_sub (fun _ h => List.mem_append_left _ (List.mem_append_left _ (List.mem_append_right _ h))) (by decide +kernel))
set_option maxRecDepth 20000 in
theorem gL_law_L_ray : GoodIn wsL_law (va_wsS RL 142 yL_ray wsL_ray) := goodIn_app (goodIn_of _ (by decide +kernel)) ggL_law_L_ray
set_option maxRecDepth 20000 in
theorem ggL_law_X8_ray : GoodIn wsL_law wsX8_ray := goodIn_r _ [371, 123, 124, 125, 5, 126, 372, 373, 374, 375, 376, 334, 377, 378, 379, 380, 381, 382, 383, 223, 78, 79, 80, 82, 307, 308, 309, 310, 135, 384, 385, 386, 387, 388, 389, 390, 391, 392, 393, 394, 395, 328, 329, 330, 331, 81, 332, 333, 335, 336, 337, 1009, 1010, 1011, 1012, 1013, 1014, 1015, 1016, 1017, 1018, 1019, 1020, 1021, 1022] rfl (by decide +kernel)
set_option maxRecDepth 20000 in
theorem gL_law_X8_ray : GoodIn wsL_law (wsV RL 144 RX8 yX8_ray wsX8_ray) := goodIn_app (goodIn_of _ (by decide +kernel)) ggL_law_X8_ray
set_option maxRecDepth 20000 in
theorem ggL_law_L_table : GoodIn wsL_law wsL_table := goodIn_ca (goodIn_r _ [398, 92, 399, 400, 401, 2, 402, 37, 403, 404, 405, 406, 318, 319, 320, 98, 99, 263, 264, 265, 407, 408, 409, 410, 25, 266, 267, 268, 269, 20, 270, 271, 272, 273, 218, 114, 16, 17, 18, 19, 274, 275, 276, 24, 277, 278, 279, 280, 281, 282, 283, 284, 285, 286, 287, 288, 289, 290, 51, 50, 52, 54, 411, 412, 413, 36, 414, 415, 416, 417, 418, 419, 420, 421, 422, 423, 424, 425, 426, 427, 428, 429, 430, 431, 432, 433, 434, 321, 322, 323, 1023, 1024, 994, 995, 996, 997, 998, 999, 1000, 1001, 1002, 1003, 1004, 1005, 1006, 1007, 1008, 1040, 1041, 1042, 1043, 1025, 1026, 1027, 1028, 1029, 1030, 1031] rfl (by decide +kernel)) (goodIn_sub (fun _ h => List.mem_append_left _ (List.mem_append_left _ (List.mem_append_right _ h))) (by decide +kernel))
set_option maxRecDepth 20000 in
theorem gL_law_L_table : GoodIn wsL_law (va_wsS RL 145 yL_table wsL_table) := goodIn_app (goodIn_of _ (by decide +kernel)) ggL_law_L_table
set_option maxRecDepth 20000 in
theorem ggL_law_X8_table : GoodIn wsL_law wsX8_table := goodIn_r _ [438, 123, 124, 125, 5, 126, 439, 440, 441, 442, 223, 78, 80, 307, 308, 309, 310, 135, 82, 328, 329, 330, 331, 81, 332, 333, 334, 335, 336, 337, 1009, 1010, 1011, 1012, 1013, 1014, 1015, 1016, 1017, 1018, 1019, 1020, 1021, 1022] rfl (by decide +kernel)
set_option maxRecDepth 20000 in
theorem gL_law_X8_table : GoodIn wsL_law (wsV RL 147 RX8 yX8_table wsX8_table) := goodIn_app (goodIn_of _ (by decide +kernel)) ggL_law_X8_table
set_option maxRecDepth 20000 in
theorem ggL_law_L_image : GoodIn wsL_law wsL_image := goodIn_ca (goodIn_r _ [445, 92, 446, 447, 448, 2, 449, 37, 318, 319, 320, 98, 99, 263, 264, 265, 407, 408, 409, 410, 25, 266, 267, 268, 269, 20, 270, 271, 272, 273, 218, 114, 16, 17, 18, 19, 274, 275, 276, 24, 277, 278, 279, 280, 281, 282, 283, 284, 285, 286, 287, 288, 289, 290, 51, 50, 52, 54, 411, 412, 413, 36, 414, 415, 416, 417, 418, 419, 420, 421, 422, 423, 424, 425, 426, 427, 428, 429, 430, 431, 432, 433, 434, 450, 451, 452, 453, 454, 455, 456, 457, 362, 363, 321, 322, 323, 458, 459, 460, 461, 462, 463, 464, 465, 466, 467, 468, 469, 470, 1023, 1024, 994, 995, 996, 997, 998, 999, 1000, 1001, 1002, 1003, 1004, 1005, 1006, 1007, 1008, 1025, 1026, 1027, 1028, 1029, 1030, 1031, 1040, 1041, 1042, 1043] rfl (by decide +kernel)) (goodIn_sub (fun _ h => List.mem_append_left _ (List.mem_append_left _ (List.mem_append_right _ h))) (by decide +kernel))
set_option maxRecDepth 20000 in
theorem gL_law_L_image : GoodIn wsL_law (va_wsS RL 148 yL_image wsL_image) := goodIn_app (goodIn_of _ (by decide +kernel)) ggL_law_L_image
set_option maxRecDepth 20000 in
theorem ggL_law_X8_image : GoodIn wsL_law wsX8_image := goodIn_r _ [474, 123, 124, 125, 5, 126, 475, 476, 477, 478, 479, 439, 440, 441, 442, 223, 78, 80, 307, 308, 309, 310, 135, 82, 328, 329, 330, 331, 81, 332, 333, 334, 335, 336, 337, 384, 385, 386, 387, 388, 389, 390, 391, 392, 393, 394, 395, 480, 481, 482, 483, 484, 485, 486, 487, 1009, 1010, 1011, 1012, 1013, 1014, 1015, 1016, 1017, 1018, 1019, 1020, 1021, 1022] rfl (by decide +kernel)
set_option maxRecDepth 20000 in
theorem gL_law_X8_image : GoodIn wsL_law (wsV RL 150 RX8 yX8_image wsX8_image) := goodIn_app (goodIn_of _ (by decide +kernel)) ggL_law_X8_image
set_option maxRecDepth 20000 in
theorem ggL_law_L_many : GoodIn wsL_law wsL_many := goodIn_ca (goodIn_r _ [490, 92, 491, 492, 493, 2, 494, 114, 25, 495, 218, 20, 41, 37, 496, 250, 21, 263, 264, 265, 98, 99, 497, 498, 499, 500, 18, 266, 267, 268, 269, 270, 271, 272, 273, 16, 17, 19, 274, 275, 276, 24, 277, 278, 279, 280, 281, 282, 283, 284, 285, 286, 287, 288, 289, 290, 51, 50, 52, 54, 501, 502, 503, 40, 504, 505, 506, 507, 508, 509, 510, 511, 512, 513, 420, 421, 36, 422, 423, 424, 425, 426, 514, 428, 429, 430, 362, 363, 515, 516, 517, 518, 519, 520, 432, 433, 434, 364, 365, 366, 367, 521, 522, 523, 524, 33, 345, 525, 526, 527, 528, 32, 529, 530, 64, 63, 531, 532, 533, 534, 350, 351, 28, 352, 353, 354, 355, 356, 357, 358, 359, 360, 361, 535, 536, 537, 538, 539, 540, 541, 542, 543, 544, 1023, 1024, 994, 995, 996, 997, 998, 999, 1000, 1001, 1002, 1003, 1004, 1005, 1006, 1007, 1008, 1025, 1026, 1027, 1028, 1029, 1030, 1031, 1044, 1045, 1040, 1041, 1042, 1043, 1035, 1036, 1037, 1038, 1039, 1032, 1033, 1034] rfl (by decide +kernel)) (goodIn_sub (fun _ h => List.mem_append_left _ (List.mem_append_left _ (List.mem_append_right _ h))) (by decide +kernel))
set_option maxRecDepth 20000 in
theorem gL_law_L_many : GoodIn wsL_law (va_wsS RL 151 yL_many wsL_many) := goodIn_app (goodIn_of _ (by decide +kernel)) ggL_law_L_many
set_option maxRecDepth 20000 in
theorem ggL_law_X8_many : GoodIn wsL_law wsX8_many := goodIn_r _ [548, 123, 124, 125, 5, 126, 549, 550, 551, 552, 223, 135, 80, 78, 82, 255, 83, 307, 308, 309, 310, 553, 554, 555, 556, 377, 79, 479, 384, 385, 386, 387, 388, 389, 390, 391, 392, 393, 394, 395, 328, 329, 330, 331, 81, 332, 333, 334, 557, 558, 559, 560, 376, 561, 379, 380, 381, 382, 383, 378, 127, 128, 129, 130, 1009, 1010, 1011, 1012, 1013, 1014, 1015, 1016, 1017, 1018, 1019, 1020, 1021, 1022] rfl (by decide +kernel)
set_option maxRecDepth 20000 in
theorem gL_law_X8_many : GoodIn wsL_law (wsV RL 153 RX8 yX8_many wsX8_many) := goodIn_app (goodIn_of _ (by decide +kernel)) ggL_law_X8_many
set_option maxRecDepth 20000 in
theorem ggL_law_L_through : GoodIn wsL_law wsL_through := goodIn_ca (goodIn_r _ [564, 91, 565, 566, 567, 2, 568, 25, 33, 162, 163, 164, 165, 103, 104, 166, 167, 168, 169, 114, 266, 267, 268, 269, 20, 270, 271, 272, 273, 218, 16, 17, 18, 19, 274, 275, 276, 24, 277, 278, 279, 280, 281, 282, 283, 284, 285, 286, 287, 288, 289, 290, 51, 50, 52, 54, 291, 292, 293, 294, 521, 522, 523, 524, 21, 345, 525, 526, 527, 528, 32, 529, 530, 64, 63, 531, 532, 533, 534, 350, 351, 28, 352, 353, 354, 355, 356, 357, 358, 359, 360, 361, 362, 363, 535, 536, 537, 538, 539, 540, 569, 570, 571, 572, 1023, 1024, 994, 995, 996, 997, 998, 999, 1000, 1001, 1002, 1003, 1004, 1005, 1006, 1007, 1008, 1025, 1026, 1027, 1028, 1029, 1030, 1031, 1035, 1036, 1037, 1038, 1039, 1032, 1033, 1034] rfl (by decide +kernel)) (goodIn_sub (fun _ h => List.mem_append_left _ (List.mem_append_right _ h)) (by decide +kernel))
set_option maxRecDepth 20000 in
theorem gL_law_L_through : GoodIn wsL_law (va_wsS RL 154 yL_through wsL_through) := goodIn_app (goodIn_of _ (by decide +kernel)) ggL_law_L_through
set_option maxRecDepth 20000 in
theorem ggL_law_X8_through : GoodIn wsL_law wsX8_through := goodIn_r _ [576, 123, 174, 175, 176, 5, 177, 135, 124, 125, 126, 577, 578, 579, 580, 83, 376, 561, 379, 78, 303, 304, 305, 306, 223, 307, 308, 309, 310, 82, 380, 381, 382, 383, 377, 378, 79, 80, 384, 385, 386, 387, 388, 389, 390, 391, 392, 393, 394, 395, 328, 329, 330, 331, 81, 332, 333, 334, 127, 128, 129, 130, 1009, 1010, 1011, 1012, 1013, 1014, 1015, 1016, 1017, 1018, 1019, 1020, 1021, 1022] rfl (by decide +kernel)
set_option maxRecDepth 20000 in
theorem gL_law_X8_through : GoodIn wsL_law (wsV RL 156 RX8 yX8_through wsX8_through) := goodIn_app (goodIn_of _ (by decide +kernel)) ggL_law_X8_through
set_option maxRecDepth 20000 in
theorem ggL_law_X6_rail : GoodIn wsL_law wsX6_rail := goodIn_r _ [584, 585, 586, 587, 25, 495, 588, 266, 267, 268, 2, 269, 20, 270, 271, 272, 273, 218, 114, 16, 17, 18, 19, 274, 275, 276, 24, 277, 278, 279, 280, 281, 282, 283, 284, 285, 286, 287, 288, 289, 290, 51, 50, 52, 54, 589, 590, 591, 592, 593, 594, 595, 596, 13, 14, 597, 598, 599, 600, 601, 602, 603, 604, 605, 606, 607, 608, 609, 610, 611, 612, 613, 614, 615, 616, 617, 618, 619, 620, 621, 622, 623, 624, 625, 626, 627, 628, 629, 630, 631, 632, 633, 634, 635, 636, 637, 638, 639, 640, 641, 642, 643, 644, 645, 646, 647, 648, 649, 650, 651, 652, 653, 654, 655, 656, 657, 658, 659, 660, 661, 662, 663, 664, 665, 666, 667, 668, 669, 670, 671, 672, 673, 674, 675, 676, 677, 678, 679, 680, 681, 682, 683, 684, 685, 686, 687, 688, 689, 690, 691, 692, 693, 694, 695, 696, 697, 698, 699, 700, 701, 702, 703, 704, 705, 706, 707, 708, 709, 710, 711, 712, 713, 714, 715, 166, 167, 168, 169, 716, 717, 718, 719, 720, 721, 722, 723, 724, 725, 726, 727, 728, 729, 730, 731, 732, 733, 734, 735, 736, 737, 738, 739, 740, 741, 742, 743, 744, 745, 746, 747, 748, 749, 750, 751, 752, 753, 754, 755, 756, 757, 758, 759, 760, 761, 762, 763, 764, 765, 766, 767, 768, 769, 770, 771, 772, 773, 1048, 1049, 1050, 1051, 994, 995, 996, 997, 998, 999, 1000, 1001, 1002, 1003, 1004, 1005, 1006, 1007, 1008, 1025, 1026, 1027, 1028, 1029, 1030, 1031, 1052, 1053, 1054, 1055] rfl (by decide +kernel)
set_option maxRecDepth 20000 in
theorem gL_law_X6_rail : GoodIn wsL_law (wsV RL 157 RX6 yX6_rail wsX6_rail) := goodIn_app (goodIn_of _ (by decide +kernel)) ggL_law_X6_rail
set_option maxRecDepth 20000 in
theorem ggL_law_X8_rail : GoodIn wsL_law wsX8_rail := goodIn_r _ [777, 123, 778, 586, 587, 223, 80, 78, 779, 780, 781, 782, 783, 594, 784, 596, 13, 14, 785, 629, 600, 598, 599, 786, 787, 788, 687, 789, 733, 790, 791, 792, 793, 734, 732, 794, 601, 602, 603, 604, 605, 606, 607, 608, 795, 796, 797, 798, 799, 800, 801, 802, 803, 804, 805, 615, 806, 807, 618, 808, 809, 810, 811, 812, 619, 620, 621, 622, 623, 624, 625, 626, 627, 628, 630, 631, 632, 633, 634, 635, 636, 637, 638, 639, 640, 641, 642, 643, 644, 645, 646, 647, 648, 649, 650, 651, 652, 653, 654, 655, 656, 657, 658, 659, 660, 661, 662, 663, 597, 813, 814, 815, 697, 816, 817, 818, 682, 683, 684, 819, 820, 821, 689, 822, 823, 692, 824, 694, 695, 696, 698, 699, 825, 826, 827, 828, 829, 830, 831, 832, 833, 834, 668, 669, 670, 671, 672, 673, 674, 666, 675, 676, 677, 678, 679, 680, 681, 685, 686, 688, 690, 691, 693, 835, 836, 837, 838, 839, 840, 307, 308, 309, 5, 310, 135, 82, 841, 610, 611, 612, 613, 614, 616, 617, 664, 665, 667, 700, 701, 702, 703, 704, 705, 706, 707, 708, 709, 710, 711, 842, 720, 721, 722, 723, 724, 725, 726, 727, 728, 729, 730, 731, 735, 736, 737, 738, 739, 740, 741, 742, 743, 744, 745, 746, 747, 748, 749, 750, 751, 752, 753, 754, 755, 756, 757, 758, 759, 760, 761, 762, 763, 764, 765, 766, 767, 768, 769, 770, 771, 772, 773, 1009, 1010, 1011, 1012, 1013, 1014, 1015, 1016, 1017, 1018, 1019, 1020, 1021, 1022, 1048, 1049, 1050, 1051, 1052, 1053, 1054, 1055] rfl (by decide +kernel)
set_option maxRecDepth 20000 in
theorem gL_law_X8_rail : GoodIn wsL_law (wsV RL 161 RX8 yX8_rail wsX8_rail) := goodIn_app (goodIn_of _ (by decide +kernel)) ggL_law_X8_rail
set_option maxRecDepth 20000 in
theorem ggL_law_X6_grasp : GoodIn wsL_law wsX6_grasp := goodIn_r _ [846, 41, 25, 37, 847, 266, 267, 268, 2, 269, 20, 270, 271, 272, 273, 218, 114, 16, 17, 18, 19, 274, 275, 276, 24, 277, 278, 279, 280, 281, 282, 283, 284, 285, 286, 287, 288, 289, 290, 51, 50, 52, 54, 501, 502, 503, 40, 504, 505, 506, 507, 508, 509, 510, 511, 512, 513, 420, 421, 36, 422, 423, 424, 425, 426, 514, 428, 429, 430, 362, 363, 515, 516, 517, 518, 519, 520, 432, 433, 434, 321, 322, 323, 994, 995, 996, 997, 998, 999, 1000, 1001, 1002, 1003, 1004, 1005, 1006, 1007, 1008, 1044, 1045, 1025, 1026, 1027, 1028, 1029, 1030, 1031, 1040, 1041, 1042, 1043] rfl (by decide +kernel)
set_option maxRecDepth 20000 in
theorem gL_law_X6_grasp : GoodIn wsL_law (wsV RL 162 RX6 yX6_grasp wsX6_grasp) := goodIn_app (goodIn_of _ (by decide +kernel)) ggL_law_X6_grasp
set_option maxRecDepth 20000 in
theorem ggL_law_X8_grasp : GoodIn wsL_law wsX8_grasp := goodIn_r _ [851, 123, 852, 853, 854, 5, 855, 377, 553, 554, 555, 556, 223, 78, 79, 479, 80, 307, 308, 309, 310, 135, 82, 384, 385, 386, 387, 388, 389, 390, 391, 392, 393, 394, 395, 328, 329, 330, 331, 81, 332, 333, 334, 335, 336, 337, 1009, 1010, 1011, 1012, 1013, 1014, 1015, 1016, 1017, 1018, 1019, 1020, 1021, 1022] rfl (by decide +kernel)
set_option maxRecDepth 20000 in
theorem gL_law_X8_grasp : GoodIn wsL_law (wsV RL 166 RX8 yX8_grasp wsX8_grasp) := goodIn_app (goodIn_of _ (by decide +kernel)) ggL_law_X8_grasp
set_option maxRecDepth 20000 in
theorem ggL_law_L_blur : GoodIn wsL_law wsL_blur := goodIn_ca (goodIn_r _ [858, 92, 859, 860, 861, 2, 862, 33, 318, 319, 320, 98, 99, 266, 267, 268, 269, 20, 270, 271, 272, 273, 25, 218, 114, 16, 17, 18, 19, 274, 275, 276, 24, 277, 278, 279, 280, 281, 282, 283, 284, 285, 286, 287, 288, 289, 290, 51, 50, 52, 54, 521, 522, 523, 524, 21, 345, 525, 526, 527, 528, 32, 529, 530, 64, 63, 531, 532, 533, 534, 350, 351, 28, 352, 353, 354, 355, 356, 357, 358, 359, 360, 361, 362, 363, 535, 536, 537, 538, 539, 540, 863, 864, 865, 866, 321, 322, 323, 1023, 1024, 994, 995, 996, 997, 998, 999, 1000, 1001, 1002, 1003, 1004, 1005, 1006, 1007, 1008, 1025, 1026, 1027, 1028, 1029, 1030, 1031, 1035, 1036, 1037, 1038, 1039, 1032, 1033, 1034] rfl (by decide +kernel)) (goodIn_sub (fun _ h => List.mem_append_left _ (List.mem_append_left _ (List.mem_append_right _ h))) (by decide +kernel))
set_option maxRecDepth 20000 in
theorem gL_law_L_blur : GoodIn wsL_law (va_wsS RL 167 yL_blur wsL_blur) := goodIn_app (goodIn_of _ (by decide +kernel)) ggL_law_L_blur
set_option maxRecDepth 20000 in
theorem ggL_law_X8_blur : GoodIn wsL_law wsX8_blur := goodIn_r _ [870, 123, 124, 125, 5, 126, 871, 872, 873, 874, 83, 376, 561, 379, 377, 875, 380, 381, 382, 383, 378, 223, 78, 79, 80, 82, 307, 308, 309, 310, 135, 384, 385, 386, 387, 388, 389, 390, 391, 392, 393, 394, 395, 328, 329, 330, 331, 81, 332, 333, 334, 876, 877, 878, 879, 880, 881, 882, 335, 336, 337, 1009, 1010, 1011, 1012, 1013, 1014, 1015, 1016, 1017, 1018, 1019, 1020, 1021, 1022] rfl (by decide +kernel)
set_option maxRecDepth 20000 in
theorem gL_law_X8_blur : GoodIn wsL_law (wsV RL 169 RX8 yX8_blur wsX8_blur) := goodIn_app (goodIn_of _ (by decide +kernel)) ggL_law_X8_blur
set_option maxRecDepth 20000 in
theorem ggL_law_X6_apart : GoodIn wsL_law wsX6_apart := goodIn_r _ [886, 37, 407, 408, 409, 2, 410, 25, 266, 267, 268, 269, 20, 270, 271, 272, 273, 218, 114, 16, 17, 18, 19, 274, 275, 276, 24, 277, 278, 279, 280, 281, 282, 283, 284, 285, 286, 287, 288, 289, 290, 51, 50, 52, 54, 411, 412, 413, 36, 414, 415, 416, 417, 418, 419, 420, 421, 422, 423, 424, 425, 426, 427, 428, 429, 430, 431, 432, 433, 434, 458, 459, 460, 461, 454, 455, 456, 457, 362, 363, 462, 463, 464, 465, 321, 322, 323, 994, 995, 996, 997, 998, 999, 1000, 1001, 1002, 1003, 1004, 1005, 1006, 1007, 1008, 1025, 1026, 1027, 1028, 1029, 1030, 1031, 1040, 1041, 1042, 1043] rfl (by decide +kernel)
set_option maxRecDepth 20000 in
theorem gL_law_X6_apart : GoodIn wsL_law (wsV RL 170 RX6 yX6_apart wsX6_apart) := goodIn_app (goodIn_of _ (by decide +kernel)) ggL_law_X6_apart
set_option maxRecDepth 20000 in
theorem ggL_law_X8_apart : GoodIn wsL_law wsX8_apart := goodIn_r _ [890, 123, 891, 892, 893, 5, 894, 480, 481, 482, 483, 479, 439, 440, 441, 442, 223, 78, 80, 307, 308, 309, 310, 135, 82, 328, 329, 330, 331, 81, 332, 333, 334, 335, 336, 337, 384, 385, 386, 387, 388, 389, 390, 391, 392, 393, 394, 395, 484, 485, 486, 487, 1009, 1010, 1011, 1012, 1013, 1014, 1015, 1016, 1017, 1018, 1019, 1020, 1021, 1022] rfl (by decide +kernel)
set_option maxRecDepth 20000 in
theorem gL_law_X8_apart : GoodIn wsL_law (wsV RL 173 RX8 yX8_apart wsX8_apart) := goodIn_app (goodIn_of _ (by decide +kernel)) ggL_law_X8_apart
set_option maxRecDepth 20000 in
theorem ggL_law_L_sharp : GoodIn wsL_law wsL_sharp := goodIn_ca (goodIn_r _ [897, 92, 898, 899, 900, 2, 901, 25, 45, 33, 902, 318, 319, 320, 98, 99, 266, 267, 268, 269, 20, 270, 271, 272, 273, 218, 114, 16, 17, 18, 19, 274, 275, 276, 24, 277, 278, 279, 280, 281, 282, 283, 284, 285, 286, 287, 288, 289, 290, 51, 50, 52, 54, 541, 542, 543, 544, 903, 904, 905, 44, 906, 907, 908, 521, 522, 523, 524, 21, 345, 525, 526, 527, 528, 32, 529, 530, 64, 63, 531, 532, 533, 534, 350, 351, 28, 352, 353, 354, 355, 356, 357, 358, 359, 360, 361, 362, 363, 535, 536, 537, 538, 539, 540, 909, 910, 911, 912, 913, 914, 864, 865, 866, 1023, 1024, 994, 995, 996, 997, 998, 999, 1000, 1001, 1002, 1003, 1004, 1005, 1006, 1007, 1008, 1046, 1047, 1025, 1026, 1027, 1028, 1029, 1030, 1031, 1035, 1036, 1037, 1038, 1039, 1032, 1033, 1034] rfl (by decide +kernel)) (goodIn_sub (fun _ h => List.mem_append_left _ (List.mem_append_left _ (List.mem_append_right _ h))) (by decide +kernel))
set_option maxRecDepth 20000 in
theorem gL_law_L_sharp : GoodIn wsL_law (va_wsS RL 174 yL_sharp wsL_sharp) := goodIn_app (goodIn_of _ (by decide +kernel)) ggL_law_L_sharp
set_option maxRecDepth 20000 in
theorem ggL_law_X8_sharp : GoodIn wsL_law wsX8_sharp := goodIn_r _ [918, 123, 124, 125, 5, 126, 919, 920, 921, 922, 82, 549, 550, 551, 552, 223, 135, 80, 78, 255, 83, 307, 308, 309, 310, 553, 554, 555, 556, 377, 79, 479, 384, 385, 386, 387, 388, 389, 390, 391, 392, 393, 394, 395, 328, 329, 330, 331, 81, 332, 333, 334, 557, 558, 559, 560, 376, 561, 379, 380, 381, 382, 383, 378, 871, 872, 873, 874, 875, 876, 877, 878, 879, 880, 881, 882, 335, 336, 337, 127, 128, 129, 130, 1009, 1010, 1011, 1012, 1013, 1014, 1015, 1016, 1017, 1018, 1019, 1020, 1021, 1022] rfl (by decide +kernel)
set_option maxRecDepth 20000 in
theorem gL_law_X8_sharp : GoodIn wsL_law (wsV RL 176 RX8 yX8_sharp wsX8_sharp) := goodIn_app (goodIn_of _ (by decide +kernel)) ggL_law_X8_sharp
set_option maxRecDepth 20000 in
theorem ggL_law_L_best : GoodIn wsL_law wsL_best := goodIn_ca (goodIn_ca (goodIn_r _ [925, 91, 92, 926, 927, 928, 2, 929, 45, 218, 20, 33, 902, 162, 163, 164, 165, 103, 104, 166, 167, 168, 169, 114, 318, 319, 320, 98, 99, 903, 904, 905, 44, 906, 907, 908, 115, 116, 117, 118, 16, 270, 271, 272, 273, 25, 17, 18, 19, 274, 275, 276, 24, 277, 278, 279, 280, 281, 282, 283, 284, 285, 286, 287, 288, 289, 290, 51, 50, 52, 54, 521, 522, 523, 524, 21, 345, 525, 526, 527, 528, 32, 529, 530, 64, 63, 531, 532, 533, 534, 350, 351, 28, 352, 353, 354, 355, 356, 357, 358, 359, 360, 361, 362, 363, 535, 536, 537, 538, 539, 540, 909, 910, 911, 912, 913, 914, 864, 865, 866, 1023, 1024, 994, 995, 996, 997, 998, 999, 1000, 1001, 1002, 1003, 1004, 1005, 1006, 1007, 1008, 1046, 1047, 1025, 1026, 1027, 1028, 1029, 1030, 1031, 1035, 1036, 1037, 1038, 1039, 1032, 1033, 1034] rfl (by decide +kernel)) (goodIn_sub (fun _ h => List.mem_append_left _ (List.mem_append_right _ h)) (by decide +kernel))) (goodIn_sub (fun _ h => List.mem_append_left _ (List.mem_append_left _ (List.mem_append_right _ h))) (by decide +kernel))
set_option maxRecDepth 20000 in
theorem gL_law_L_best : GoodIn wsL_law (va_wsS RL 177 yL_best wsL_best) := goodIn_app (goodIn_of _ (by decide +kernel)) ggL_law_L_best
set_option maxRecDepth 20000 in
theorem ggL_law_X8_best : GoodIn wsL_law wsX8_best := goodIn_r _ [933, 123, 78, 223, 82, 174, 175, 176, 5, 177, 135, 124, 125, 126, 127, 128, 129, 130, 136, 137, 138, 139, 871, 872, 873, 874, 83, 376, 561, 379, 377, 875, 380, 381, 382, 383, 378, 79, 80, 307, 308, 309, 310, 384, 385, 386, 387, 388, 389, 390, 391, 392, 393, 394, 395, 328, 329, 330, 331, 81, 332, 333, 334, 876, 877, 878, 879, 880, 881, 882, 335, 336, 337, 1009, 1010, 1011, 1012, 1013, 1014, 1015, 1016, 1017, 1018, 1019, 1020, 1021, 1022] rfl (by decide +kernel)
set_option maxRecDepth 20000 in
theorem gL_law_X8_best : GoodIn wsL_law (wsV RL 179 RX8 yX8_best wsX8_best) := goodIn_app (goodIn_of _ (by decide +kernel)) ggL_law_X8_best
set_option maxRecDepth 20000 in
theorem ggL_law_L_without : GoodIn wsL_law wsL_without := goodIn_ca (goodIn_r _ [936, 91, 937, 938, 939, 2, 940, 20, 162, 163, 164, 165, 103, 104, 166, 167, 168, 169, 114, 270, 271, 272, 273, 25, 218, 16, 17, 18, 19, 274, 275, 276, 24, 277, 278, 279, 280, 281, 282, 283, 284, 285, 286, 287, 288, 289, 290, 51, 50, 52, 54, 521, 522, 523, 524, 33, 21, 345, 525, 526, 527, 528, 32, 529, 530, 64, 63, 531, 532, 533, 534, 350, 351, 28, 352, 353, 354, 355, 356, 357, 358, 359, 360, 361, 362, 363, 535, 536, 537, 538, 539, 540, 1023, 1024, 994, 995, 996, 997, 998, 999, 1000, 1001, 1002, 1003, 1004, 1005, 1006, 1007, 1008, 1025, 1026, 1027, 1028, 1029, 1030, 1031, 1035, 1036, 1037, 1038, 1039, 1032, 1033, 1034] rfl (by decide +kernel)) (goodIn_sub (fun _ h => List.mem_append_left _ (List.mem_append_right _ h)) (by decide +kernel))
set_option maxRecDepth 20000 in
theorem gL_law_L_without : GoodIn wsL_law (va_wsS RL 180 yL_without wsL_without) := goodIn_app (goodIn_of _ (by decide +kernel)) ggL_law_L_without
set_option maxRecDepth 20000 in
theorem ggL_law_X8_without : GoodIn wsL_law wsX8_without := goodIn_r _ [944, 123, 174, 175, 176, 5, 177, 135, 124, 125, 126, 557, 558, 559, 560, 83, 376, 561, 379, 380, 381, 382, 383, 377, 378, 223, 78, 79, 80, 82, 307, 308, 309, 310, 384, 385, 386, 387, 388, 389, 390, 391, 392, 393, 394, 395, 328, 329, 330, 331, 81, 332, 333, 334, 127, 128, 129, 130, 1009, 1010, 1011, 1012, 1013, 1014, 1015, 1016, 1017, 1018, 1019, 1020, 1021, 1022] rfl (by decide +kernel)
set_option maxRecDepth 20000 in
theorem gL_law_X8_without : GoodIn wsL_law (wsV RL 182 RX8 yX8_without wsX8_without) := goodIn_app (goodIn_of _ (by decide +kernel)) ggL_law_X8_without
set_option maxRecDepth 20000 in
theorem ggL_law_X6_digest : GoodIn wsL_law wsX6_digest := goodIn_ca (goodIn_ca (goodIn_r _ [948, 949, 114, 950, 492, 493, 2, 494, 25, 495, 218, 20, 41, 37, 496, 250, 21, 263, 264, 265, 98, 99, 497, 498, 499, 500, 18, 266, 267, 268, 269, 270, 271, 272, 273, 16, 17, 19, 274, 275, 276, 24, 277, 278, 279, 280, 281, 282, 283, 284, 285, 286, 287, 288, 289, 290, 51, 50, 52, 54, 501, 502, 503, 40, 504, 505, 506, 507, 508, 509, 510, 511, 512, 513, 420, 421, 36, 422, 423, 424, 425, 426, 514, 428, 429, 430, 362, 363, 515, 516, 517, 518, 519, 520, 432, 433, 434, 364, 365, 366, 367, 521, 522, 523, 524, 33, 345, 525, 526, 527, 528, 32, 529, 530, 64, 63, 531, 532, 533, 534, 350, 351, 28, 352, 353, 354, 355, 356, 357, 358, 359, 360, 361, 535, 536, 537, 538, 539, 540, 541, 542, 543, 544, 951, 952, 953, 954, 955, 956, 957, 958, 959, 260, 261, 262, 162, 163, 164, 165, 103, 104, 166, 167, 168, 169, 291, 292, 293, 294, 960, 315, 316, 317, 318, 319, 320, 321, 322, 323, 961, 962, 963, 964, 965, 566, 567, 568, 569, 570, 571, 572, 966, 938, 939, 940, 967, 968, 969, 970, 971, 400, 401, 402, 403, 404, 405, 406, 407, 408, 409, 410, 411, 412, 413, 414, 415, 416, 417, 418, 419, 427, 431, 972, 447, 448, 449, 450, 451, 452, 453, 454, 455, 456, 457, 458, 459, 460, 461, 462, 463, 464, 465, 466, 467, 468, 469, 470, 973, 860, 861, 862, 863, 864, 865, 866, 974, 844, 845, 846, 847, 975, 884, 885, 886, 976, 899, 900, 901, 45, 902, 903, 904, 905, 44, 906, 907, 908, 909, 910, 911, 912, 913, 914, 977, 342, 343, 344, 29, 346, 347, 348, 349, 994, 995, 996, 997, 998, 999, 1000, 1001, 1002, 1003, 1004, 1005, 1006, 1007, 1008, 1025, 1026, 1027, 1028, 1029, 1030, 1031, 1044, 1045, 1040, 1041, 1042, 1043, 1035, 1036, 1037, 1038, 1039, 1032, 1033, 1034, 1046, 1047] rfl (by decide +kernel)) (goodIn_sub (fun _ h => List.mem_append_left _ (List.mem_append_left _ (List.mem_append_right _ h))) (by decide +kernel))) (goodIn_sub (fun _ h => List.mem_append_left _ (List.mem_append_right _ h)) (by decide +kernel))
set_option maxRecDepth 20000 in
theorem gL_law_X6_digest : GoodIn wsL_law (wsV RL 183 RX6 yX6_digest wsX6_digest) := goodIn_app (goodIn_of _ (by decide +kernel)) ggL_law_X6_digest
set_option maxRecDepth 20000 in
theorem ggL_law_X8_digest : GoodIn wsL_law wsX8_digest := goodIn_r _ [981, 123, 982, 983, 135, 549, 550, 551, 5, 552, 223, 80, 78, 82, 255, 83, 307, 308, 309, 310, 553, 554, 555, 556, 377, 79, 479, 384, 385, 386, 387, 388, 389, 390, 391, 392, 393, 394, 395, 328, 329, 330, 331, 81, 332, 333, 334, 557, 558, 559, 560, 376, 561, 379, 380, 381, 382, 383, 378, 984, 985, 986, 987, 988, 299, 300, 301, 302, 303, 304, 305, 306, 989, 990, 991, 992, 993, 577, 578, 579, 580, 439, 440, 441, 442, 335, 336, 337, 475, 476, 477, 478, 480, 481, 482, 483, 484, 485, 486, 487, 871, 872, 873, 874, 875, 876, 877, 878, 879, 880, 881, 882, 852, 853, 854, 855, 891, 892, 893, 894, 919, 920, 921, 922, 372, 373, 374, 375, 1009, 1010, 1011, 1012, 1013, 1014, 1015, 1016, 1017, 1018, 1019, 1020, 1021, 1022] rfl (by decide +kernel)
set_option maxRecDepth 20000 in
theorem gL_law_X8_digest : GoodIn wsL_law (wsV RL 187 RX8 yX8_digest wsX8_digest) := goodIn_app (goodIn_of _ (by decide +kernel)) ggL_law_X8_digest
theorem dL_law_0 : decode cL_law 0 = .ok (.new 8, 3) := by decide +kernel
theorem dL_law_3 : decode cL_law 3 = .ok (.dup, 1) := by decide +kernel
theorem dL_law_4 : decode cL_law 4 = .ok (.invokespecial 91, 3) := by decide +kernel
theorem dL_law_7 : decode cL_law 7 = .ok (.astore_n 1, 1) := by decide +kernel
theorem dL_law_8 : decode cL_law 8 = .ok (.new 92, 3) := by decide +kernel
theorem dL_law_11 : decode cL_law 11 = .ok (.dup, 1) := by decide +kernel
theorem dL_law_12 : decode cL_law 12 = .ok (.invokespecial 94, 3) := by decide +kernel
theorem dL_law_15 : decode cL_law 15 = .ok (.astore_n 2, 1) := by decide +kernel
theorem dL_law_16 : decode cL_law 16 = .ok (.new 14, 3) := by decide +kernel
theorem dL_law_19 : decode cL_law 19 = .ok (.dup, 1) := by decide +kernel
theorem dL_law_20 : decode cL_law 20 = .ok (.invokespecial 95, 3) := by decide +kernel
theorem dL_law_23 : decode cL_law 23 = .ok (.astore_n 3, 1) := by decide +kernel
theorem dL_law_24 : decode cL_law 24 = .ok (.iconst 0, 1) := by decide +kernel
theorem dL_law_25 : decode cL_law 25 = .ok (.istore 4, 2) := by decide +kernel
theorem dL_law_27 : decode cL_law 27 = .ok (.iload 4, 2) := by decide +kernel
theorem dL_law_29 : decode cL_law 29 = .ok (.aload_n 0, 1) := by decide +kernel
theorem dL_law_30 : decode cL_law 30 = .ok (.arraylength, 1) := by decide +kernel
theorem dL_law_31 : decode cL_law 31 = .ok (.iconst 5, 1) := by decide +kernel
theorem dL_law_32 : decode cL_law 32 = .ok (.isub, 1) := by decide +kernel
theorem dL_law_33 : decode cL_law 33 = .ok (.if_icmp .gt 967, 3) := by decide +kernel
theorem dL_law_36 : decode cL_law 36 = .ok (.aload_n 0, 1) := by decide +kernel
theorem dL_law_37 : decode cL_law 37 = .ok (.iload 4, 2) := by decide +kernel
theorem dL_law_39 : decode cL_law 39 = .ok (.iaload, 1) := by decide +kernel
theorem dL_law_40 : decode cL_law 40 = .ok (.bipush 31, 2) := by decide +kernel
theorem dL_law_42 : decode cL_law 42 = .ok (.iand, 1) := by decide +kernel
theorem dL_law_43 : decode cL_law 43 = .ok (.tableswitch 951 0 24 #[113, 206, 246, 274, 314, 354, 394, 422, 450, 478, 491, 531, 571, 635, 675, 715, 743, 771, 784, 799, 827, 842, 870, 910, 938], 113) := by decide +kernel
theorem dL_law_156 : decode cL_law 156 = .ok (.aload_n 1, 1) := by decide +kernel
theorem dL_law_157 : decode cL_law 157 = .ok (.aload_n 0, 1) := by decide +kernel
theorem dL_law_158 : decode cL_law 158 = .ok (.iload 4, 2) := by decide +kernel
theorem dL_law_160 : decode cL_law 160 = .ok (.iconst 1, 1) := by decide +kernel
theorem dL_law_161 : decode cL_law 161 = .ok (.iadd, 1) := by decide +kernel
theorem dL_law_162 : decode cL_law 162 = .ok (.iaload, 1) := by decide +kernel
theorem dL_law_163 : decode cL_law 163 = .ok (.aload_n 0, 1) := by decide +kernel
theorem dL_law_164 : decode cL_law 164 = .ok (.iload 4, 2) := by decide +kernel
theorem dL_law_166 : decode cL_law 166 = .ok (.iconst 2, 1) := by decide +kernel
theorem dL_law_167 : decode cL_law 167 = .ok (.iadd, 1) := by decide +kernel
theorem dL_law_168 : decode cL_law 168 = .ok (.iaload, 1) := by decide +kernel
theorem dL_law_169 : decode cL_law 169 = .ok (.aload_n 0, 1) := by decide +kernel
theorem dL_law_170 : decode cL_law 170 = .ok (.iload 4, 2) := by decide +kernel
theorem dL_law_172 : decode cL_law 172 = .ok (.iconst 3, 1) := by decide +kernel
theorem dL_law_173 : decode cL_law 173 = .ok (.iadd, 1) := by decide +kernel
theorem dL_law_174 : decode cL_law 174 = .ok (.iaload, 1) := by decide +kernel
theorem dL_law_175 : decode cL_law 175 = .ok (.aload_n 0, 1) := by decide +kernel
theorem dL_law_176 : decode cL_law 176 = .ok (.iload 4, 2) := by decide +kernel
theorem dL_law_178 : decode cL_law 178 = .ok (.iconst 4, 1) := by decide +kernel
theorem dL_law_179 : decode cL_law 179 = .ok (.iadd, 1) := by decide +kernel
theorem dL_law_180 : decode cL_law 180 = .ok (.iaload, 1) := by decide +kernel
theorem dL_law_181 : decode cL_law 181 = .ok (.aload_n 3, 1) := by decide +kernel
theorem dL_law_182 : decode cL_law 182 = .ok (.invokestatic 96, 3) := by decide +kernel
theorem dL_law_185 : decode cL_law 185 = .ok (.istore 5, 2) := by decide +kernel
theorem dL_law_187 : decode cL_law 187 = .ok (.aload_n 2, 1) := by decide +kernel
theorem dL_law_188 : decode cL_law 188 = .ok (.aload_n 0, 1) := by decide +kernel
theorem dL_law_189 : decode cL_law 189 = .ok (.iload 4, 2) := by decide +kernel
theorem dL_law_191 : decode cL_law 191 = .ok (.iconst 1, 1) := by decide +kernel
theorem dL_law_192 : decode cL_law 192 = .ok (.iadd, 1) := by decide +kernel
theorem dL_law_193 : decode cL_law 193 = .ok (.iaload, 1) := by decide +kernel
theorem dL_law_194 : decode cL_law 194 = .ok (.aload_n 0, 1) := by decide +kernel
theorem dL_law_195 : decode cL_law 195 = .ok (.iload 4, 2) := by decide +kernel
theorem dL_law_197 : decode cL_law 197 = .ok (.iconst 2, 1) := by decide +kernel
theorem dL_law_198 : decode cL_law 198 = .ok (.iadd, 1) := by decide +kernel
theorem dL_law_199 : decode cL_law 199 = .ok (.iaload, 1) := by decide +kernel
theorem dL_law_200 : decode cL_law 200 = .ok (.aload_n 0, 1) := by decide +kernel
theorem dL_law_201 : decode cL_law 201 = .ok (.iload 4, 2) := by decide +kernel
theorem dL_law_203 : decode cL_law 203 = .ok (.iconst 3, 1) := by decide +kernel
theorem dL_law_204 : decode cL_law 204 = .ok (.iadd, 1) := by decide +kernel
theorem dL_law_205 : decode cL_law 205 = .ok (.iaload, 1) := by decide +kernel
theorem dL_law_206 : decode cL_law 206 = .ok (.aload_n 0, 1) := by decide +kernel
theorem dL_law_207 : decode cL_law 207 = .ok (.iload 4, 2) := by decide +kernel
theorem dL_law_209 : decode cL_law 209 = .ok (.iconst 4, 1) := by decide +kernel
theorem dL_law_210 : decode cL_law 210 = .ok (.iadd, 1) := by decide +kernel
theorem dL_law_211 : decode cL_law 211 = .ok (.iaload, 1) := by decide +kernel
theorem dL_law_212 : decode cL_law 212 = .ok (.invokevirtual 101, 3) := by decide +kernel
theorem dL_law_215 : decode cL_law 215 = .ok (.istore 6, 2) := by decide +kernel
theorem dL_law_217 : decode cL_law 217 = .ok (.aload_n 2, 1) := by decide +kernel
theorem dL_law_218 : decode cL_law 218 = .ok (.invokevirtual 102, 3) := by decide +kernel
theorem dL_law_221 : decode cL_law 221 = .ok (.iload 5, 2) := by decide +kernel
theorem dL_law_223 : decode cL_law 223 = .ok (.if_icmp .eq 5, 3) := by decide +kernel
theorem dL_law_226 : decode cL_law 226 = .ok (.iconst 0, 1) := by decide +kernel
theorem dL_law_227 : decode cL_law 227 = .ok (.ireturn, 1) := by decide +kernel
theorem dL_law_228 : decode cL_law 228 = .ok (.iload 5, 2) := by decide +kernel
theorem dL_law_230 : decode cL_law 230 = .ok (.ifCond .ne 16, 3) := by decide +kernel
theorem dL_law_233 : decode cL_law 233 = .ok (.aload_n 3, 1) := by decide +kernel
theorem dL_law_234 : decode cL_law 234 = .ok (.getfield 13, 3) := by decide +kernel
theorem dL_law_237 : decode cL_law 237 = .ok (.iload 6, 2) := by decide +kernel
theorem dL_law_239 : decode cL_law 239 = .ok (.i2l, 1) := by decide +kernel
theorem dL_law_240 : decode cL_law 240 = .ok (.lcmp, 1) := by decide +kernel
theorem dL_law_241 : decode cL_law 241 = .ok (.ifCond .eq 5, 3) := by decide +kernel
theorem dL_law_244 : decode cL_law 244 = .ok (.iconst 0, 1) := by decide +kernel
theorem dL_law_245 : decode cL_law 245 = .ok (.ireturn, 1) := by decide +kernel
theorem dL_law_246 : decode cL_law 246 = .ok (.goto 748, 3) := by decide +kernel
theorem dL_law_249 : decode cL_law 249 = .ok (.aload_n 1, 1) := by decide +kernel
theorem dL_law_250 : decode cL_law 250 = .ok (.aload_n 0, 1) := by decide +kernel
theorem dL_law_251 : decode cL_law 251 = .ok (.iload 4, 2) := by decide +kernel
theorem dL_law_253 : decode cL_law 253 = .ok (.iconst 1, 1) := by decide +kernel
theorem dL_law_254 : decode cL_law 254 = .ok (.iadd, 1) := by decide +kernel
theorem dL_law_255 : decode cL_law 255 = .ok (.iaload, 1) := by decide +kernel
theorem dL_law_256 : decode cL_law 256 = .ok (.aload_n 0, 1) := by decide +kernel
theorem dL_law_257 : decode cL_law 257 = .ok (.iload 4, 2) := by decide +kernel
theorem dL_law_259 : decode cL_law 259 = .ok (.iconst 2, 1) := by decide +kernel
theorem dL_law_260 : decode cL_law 260 = .ok (.iadd, 1) := by decide +kernel
theorem dL_law_261 : decode cL_law 261 = .ok (.iaload, 1) := by decide +kernel
theorem dL_law_262 : decode cL_law 262 = .ok (.aload_n 3, 1) := by decide +kernel
theorem dL_law_263 : decode cL_law 263 = .ok (.invokestatic 106, 3) := by decide +kernel
theorem dL_law_266 : decode cL_law 266 = .ok (.istore 5, 2) := by decide +kernel
theorem dL_law_268 : decode cL_law 268 = .ok (.aload_n 2, 1) := by decide +kernel
theorem dL_law_269 : decode cL_law 269 = .ok (.aload_n 0, 1) := by decide +kernel
theorem dL_law_270 : decode cL_law 270 = .ok (.iload 4, 2) := by decide +kernel
theorem dL_law_272 : decode cL_law 272 = .ok (.iconst 1, 1) := by decide +kernel
theorem dL_law_273 : decode cL_law 273 = .ok (.iadd, 1) := by decide +kernel
theorem dL_law_274 : decode cL_law 274 = .ok (.iaload, 1) := by decide +kernel
theorem dL_law_275 : decode cL_law 275 = .ok (.aload_n 0, 1) := by decide +kernel
theorem dL_law_276 : decode cL_law 276 = .ok (.iload 4, 2) := by decide +kernel
theorem dL_law_278 : decode cL_law 278 = .ok (.iconst 2, 1) := by decide +kernel
theorem dL_law_279 : decode cL_law 279 = .ok (.iadd, 1) := by decide +kernel
theorem dL_law_280 : decode cL_law 280 = .ok (.iaload, 1) := by decide +kernel
theorem dL_law_281 : decode cL_law 281 = .ok (.invokevirtual 109, 3) := by decide +kernel
theorem dL_law_284 : decode cL_law 284 = .ok (.istore 6, 2) := by decide +kernel
theorem dL_law_286 : decode cL_law 286 = .ok (.goto 708, 3) := by decide +kernel
theorem dL_law_289 : decode cL_law 289 = .ok (.aload_n 1, 1) := by decide +kernel
theorem dL_law_290 : decode cL_law 290 = .ok (.aload_n 0, 1) := by decide +kernel
theorem dL_law_291 : decode cL_law 291 = .ok (.iload 4, 2) := by decide +kernel
theorem dL_law_293 : decode cL_law 293 = .ok (.iconst 1, 1) := by decide +kernel
theorem dL_law_294 : decode cL_law 294 = .ok (.iadd, 1) := by decide +kernel
theorem dL_law_295 : decode cL_law 295 = .ok (.iaload, 1) := by decide +kernel
theorem dL_law_296 : decode cL_law 296 = .ok (.aload_n 3, 1) := by decide +kernel
theorem dL_law_297 : decode cL_law 297 = .ok (.invokestatic 110, 3) := by decide +kernel
theorem dL_law_300 : decode cL_law 300 = .ok (.istore 5, 2) := by decide +kernel
theorem dL_law_302 : decode cL_law 302 = .ok (.aload_n 2, 1) := by decide +kernel
theorem dL_law_303 : decode cL_law 303 = .ok (.aload_n 0, 1) := by decide +kernel
theorem dL_law_304 : decode cL_law 304 = .ok (.iload 4, 2) := by decide +kernel
theorem dL_law_306 : decode cL_law 306 = .ok (.iconst 1, 1) := by decide +kernel
theorem dL_law_307 : decode cL_law 307 = .ok (.iadd, 1) := by decide +kernel
theorem dL_law_308 : decode cL_law 308 = .ok (.iaload, 1) := by decide +kernel
theorem dL_law_309 : decode cL_law 309 = .ok (.invokevirtual 113, 3) := by decide +kernel
theorem dL_law_312 : decode cL_law 312 = .ok (.istore 6, 2) := by decide +kernel
theorem dL_law_314 : decode cL_law 314 = .ok (.goto 680, 3) := by decide +kernel
theorem dL_law_317 : decode cL_law 317 = .ok (.aload_n 1, 1) := by decide +kernel
theorem dL_law_318 : decode cL_law 318 = .ok (.aload_n 0, 1) := by decide +kernel
theorem dL_law_319 : decode cL_law 319 = .ok (.iload 4, 2) := by decide +kernel
theorem dL_law_321 : decode cL_law 321 = .ok (.iconst 1, 1) := by decide +kernel
theorem dL_law_322 : decode cL_law 322 = .ok (.iadd, 1) := by decide +kernel
theorem dL_law_323 : decode cL_law 323 = .ok (.iaload, 1) := by decide +kernel
theorem dL_law_324 : decode cL_law 324 = .ok (.aload_n 0, 1) := by decide +kernel
theorem dL_law_325 : decode cL_law 325 = .ok (.iload 4, 2) := by decide +kernel
theorem dL_law_327 : decode cL_law 327 = .ok (.iconst 2, 1) := by decide +kernel
theorem dL_law_328 : decode cL_law 328 = .ok (.iadd, 1) := by decide +kernel
theorem dL_law_329 : decode cL_law 329 = .ok (.iaload, 1) := by decide +kernel
theorem dL_law_330 : decode cL_law 330 = .ok (.aload_n 3, 1) := by decide +kernel
theorem dL_law_331 : decode cL_law 331 = .ok (.invokestatic 114, 3) := by decide +kernel
theorem dL_law_334 : decode cL_law 334 = .ok (.istore 5, 2) := by decide +kernel
theorem dL_law_336 : decode cL_law 336 = .ok (.aload_n 2, 1) := by decide +kernel
theorem dL_law_337 : decode cL_law 337 = .ok (.aload_n 0, 1) := by decide +kernel
theorem dL_law_338 : decode cL_law 338 = .ok (.iload 4, 2) := by decide +kernel
theorem dL_law_340 : decode cL_law 340 = .ok (.iconst 1, 1) := by decide +kernel
theorem dL_law_341 : decode cL_law 341 = .ok (.iadd, 1) := by decide +kernel
theorem dL_law_342 : decode cL_law 342 = .ok (.iaload, 1) := by decide +kernel
theorem dL_law_343 : decode cL_law 343 = .ok (.aload_n 0, 1) := by decide +kernel
theorem dL_law_344 : decode cL_law 344 = .ok (.iload 4, 2) := by decide +kernel
theorem dL_law_346 : decode cL_law 346 = .ok (.iconst 2, 1) := by decide +kernel
theorem dL_law_347 : decode cL_law 347 = .ok (.iadd, 1) := by decide +kernel
theorem dL_law_348 : decode cL_law 348 = .ok (.iaload, 1) := by decide +kernel
theorem dL_law_349 : decode cL_law 349 = .ok (.invokevirtual 116, 3) := by decide +kernel
theorem dL_law_352 : decode cL_law 352 = .ok (.istore 6, 2) := by decide +kernel
theorem dL_law_354 : decode cL_law 354 = .ok (.goto 640, 3) := by decide +kernel
theorem dL_law_357 : decode cL_law 357 = .ok (.aload_n 1, 1) := by decide +kernel
theorem dL_law_358 : decode cL_law 358 = .ok (.aload_n 0, 1) := by decide +kernel
theorem dL_law_359 : decode cL_law 359 = .ok (.iload 4, 2) := by decide +kernel
theorem dL_law_361 : decode cL_law 361 = .ok (.iconst 1, 1) := by decide +kernel
theorem dL_law_362 : decode cL_law 362 = .ok (.iadd, 1) := by decide +kernel
theorem dL_law_363 : decode cL_law 363 = .ok (.iaload, 1) := by decide +kernel
theorem dL_law_364 : decode cL_law 364 = .ok (.aload_n 0, 1) := by decide +kernel
theorem dL_law_365 : decode cL_law 365 = .ok (.iload 4, 2) := by decide +kernel
theorem dL_law_367 : decode cL_law 367 = .ok (.iconst 2, 1) := by decide +kernel
theorem dL_law_368 : decode cL_law 368 = .ok (.iadd, 1) := by decide +kernel
theorem dL_law_369 : decode cL_law 369 = .ok (.iaload, 1) := by decide +kernel
theorem dL_law_370 : decode cL_law 370 = .ok (.aload_n 3, 1) := by decide +kernel
theorem dL_law_371 : decode cL_law 371 = .ok (.invokestatic 117, 3) := by decide +kernel
theorem dL_law_374 : decode cL_law 374 = .ok (.istore 5, 2) := by decide +kernel
theorem dL_law_376 : decode cL_law 376 = .ok (.aload_n 2, 1) := by decide +kernel
theorem dL_law_377 : decode cL_law 377 = .ok (.aload_n 0, 1) := by decide +kernel
theorem dL_law_378 : decode cL_law 378 = .ok (.iload 4, 2) := by decide +kernel
theorem dL_law_380 : decode cL_law 380 = .ok (.iconst 1, 1) := by decide +kernel
theorem dL_law_381 : decode cL_law 381 = .ok (.iadd, 1) := by decide +kernel
theorem dL_law_382 : decode cL_law 382 = .ok (.iaload, 1) := by decide +kernel
theorem dL_law_383 : decode cL_law 383 = .ok (.aload_n 0, 1) := by decide +kernel
theorem dL_law_384 : decode cL_law 384 = .ok (.iload 4, 2) := by decide +kernel
theorem dL_law_386 : decode cL_law 386 = .ok (.iconst 2, 1) := by decide +kernel
theorem dL_law_387 : decode cL_law 387 = .ok (.iadd, 1) := by decide +kernel
theorem dL_law_388 : decode cL_law 388 = .ok (.iaload, 1) := by decide +kernel
theorem dL_law_389 : decode cL_law 389 = .ok (.invokevirtual 119, 3) := by decide +kernel
theorem dL_law_392 : decode cL_law 392 = .ok (.istore 6, 2) := by decide +kernel
theorem dL_law_394 : decode cL_law 394 = .ok (.goto 600, 3) := by decide +kernel
theorem dL_law_397 : decode cL_law 397 = .ok (.aload_n 1, 1) := by decide +kernel
theorem dL_law_398 : decode cL_law 398 = .ok (.aload_n 0, 1) := by decide +kernel
theorem dL_law_399 : decode cL_law 399 = .ok (.iload 4, 2) := by decide +kernel
theorem dL_law_401 : decode cL_law 401 = .ok (.iconst 1, 1) := by decide +kernel
theorem dL_law_402 : decode cL_law 402 = .ok (.iadd, 1) := by decide +kernel
theorem dL_law_403 : decode cL_law 403 = .ok (.iaload, 1) := by decide +kernel
theorem dL_law_404 : decode cL_law 404 = .ok (.aload_n 0, 1) := by decide +kernel
theorem dL_law_405 : decode cL_law 405 = .ok (.iload 4, 2) := by decide +kernel
theorem dL_law_407 : decode cL_law 407 = .ok (.iconst 2, 1) := by decide +kernel
theorem dL_law_408 : decode cL_law 408 = .ok (.iadd, 1) := by decide +kernel
theorem dL_law_409 : decode cL_law 409 = .ok (.iaload, 1) := by decide +kernel
theorem dL_law_410 : decode cL_law 410 = .ok (.aload_n 3, 1) := by decide +kernel
theorem dL_law_411 : decode cL_law 411 = .ok (.invokestatic 120, 3) := by decide +kernel
theorem dL_law_414 : decode cL_law 414 = .ok (.istore 5, 2) := by decide +kernel
theorem dL_law_416 : decode cL_law 416 = .ok (.aload_n 2, 1) := by decide +kernel
theorem dL_law_417 : decode cL_law 417 = .ok (.aload_n 0, 1) := by decide +kernel
theorem dL_law_418 : decode cL_law 418 = .ok (.iload 4, 2) := by decide +kernel
theorem dL_law_420 : decode cL_law 420 = .ok (.iconst 1, 1) := by decide +kernel
theorem dL_law_421 : decode cL_law 421 = .ok (.iadd, 1) := by decide +kernel
theorem dL_law_422 : decode cL_law 422 = .ok (.iaload, 1) := by decide +kernel
theorem dL_law_423 : decode cL_law 423 = .ok (.aload_n 0, 1) := by decide +kernel
theorem dL_law_424 : decode cL_law 424 = .ok (.iload 4, 2) := by decide +kernel
theorem dL_law_426 : decode cL_law 426 = .ok (.iconst 2, 1) := by decide +kernel
theorem dL_law_427 : decode cL_law 427 = .ok (.iadd, 1) := by decide +kernel
theorem dL_law_428 : decode cL_law 428 = .ok (.iaload, 1) := by decide +kernel
theorem dL_law_429 : decode cL_law 429 = .ok (.invokevirtual 122, 3) := by decide +kernel
theorem dL_law_432 : decode cL_law 432 = .ok (.istore 6, 2) := by decide +kernel
theorem dL_law_434 : decode cL_law 434 = .ok (.goto 560, 3) := by decide +kernel
theorem dL_law_437 : decode cL_law 437 = .ok (.aload_n 1, 1) := by decide +kernel
theorem dL_law_438 : decode cL_law 438 = .ok (.aload_n 0, 1) := by decide +kernel
theorem dL_law_439 : decode cL_law 439 = .ok (.iload 4, 2) := by decide +kernel
theorem dL_law_441 : decode cL_law 441 = .ok (.iconst 1, 1) := by decide +kernel
theorem dL_law_442 : decode cL_law 442 = .ok (.iadd, 1) := by decide +kernel
theorem dL_law_443 : decode cL_law 443 = .ok (.iaload, 1) := by decide +kernel
theorem dL_law_444 : decode cL_law 444 = .ok (.aload_n 3, 1) := by decide +kernel
theorem dL_law_445 : decode cL_law 445 = .ok (.invokestatic 123, 3) := by decide +kernel
theorem dL_law_448 : decode cL_law 448 = .ok (.istore 5, 2) := by decide +kernel
theorem dL_law_450 : decode cL_law 450 = .ok (.aload_n 2, 1) := by decide +kernel
theorem dL_law_451 : decode cL_law 451 = .ok (.aload_n 0, 1) := by decide +kernel
theorem dL_law_452 : decode cL_law 452 = .ok (.iload 4, 2) := by decide +kernel
theorem dL_law_454 : decode cL_law 454 = .ok (.iconst 1, 1) := by decide +kernel
theorem dL_law_455 : decode cL_law 455 = .ok (.iadd, 1) := by decide +kernel
theorem dL_law_456 : decode cL_law 456 = .ok (.iaload, 1) := by decide +kernel
theorem dL_law_457 : decode cL_law 457 = .ok (.invokevirtual 125, 3) := by decide +kernel
theorem dL_law_460 : decode cL_law 460 = .ok (.istore 6, 2) := by decide +kernel
theorem dL_law_462 : decode cL_law 462 = .ok (.goto 532, 3) := by decide +kernel
theorem dL_law_465 : decode cL_law 465 = .ok (.aload_n 1, 1) := by decide +kernel
theorem dL_law_466 : decode cL_law 466 = .ok (.aload_n 0, 1) := by decide +kernel
theorem dL_law_467 : decode cL_law 467 = .ok (.iload 4, 2) := by decide +kernel
theorem dL_law_469 : decode cL_law 469 = .ok (.iconst 1, 1) := by decide +kernel
theorem dL_law_470 : decode cL_law 470 = .ok (.iadd, 1) := by decide +kernel
theorem dL_law_471 : decode cL_law 471 = .ok (.iaload, 1) := by decide +kernel
theorem dL_law_472 : decode cL_law 472 = .ok (.aload_n 3, 1) := by decide +kernel
theorem dL_law_473 : decode cL_law 473 = .ok (.invokestatic 126, 3) := by decide +kernel
theorem dL_law_476 : decode cL_law 476 = .ok (.istore 5, 2) := by decide +kernel
theorem dL_law_478 : decode cL_law 478 = .ok (.aload_n 2, 1) := by decide +kernel
theorem dL_law_479 : decode cL_law 479 = .ok (.aload_n 0, 1) := by decide +kernel
theorem dL_law_480 : decode cL_law 480 = .ok (.iload 4, 2) := by decide +kernel
theorem dL_law_482 : decode cL_law 482 = .ok (.iconst 1, 1) := by decide +kernel
theorem dL_law_483 : decode cL_law 483 = .ok (.iadd, 1) := by decide +kernel
