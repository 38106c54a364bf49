set_option maxRecDepth 20000 in
theorem ggL_act_L_below : GoodIn wsL_act wsL_below := goodIn_r _ [8, 9] (by decide +kernel) (by decide +kernel)
set_option maxRecDepth 20000 in
theorem gL_act_L_below : GoodIn wsL_act (va_wsS RL 18 yL_below wsL_below) := goodIn_app (goodIn_of _ (by decide +kernel)) ggL_act_L_below
set_option maxRecDepth 20000 in
theorem ggL_act_X1_raise : GoodIn wsL_act wsX1_raise := goodIn_ca (goodIn_ca (goodIn_r _ [14, 15, 16, 17, 13, 18, 19, 20, 21, 22, 23, 24, 25, 26, 27, 28, 29, 30, 31, 32, 33, 34, 35, 36, 37, 38, 39, 40, 41, 42, 287, 288, 289, 290, 291, 292, 293, 294, 295, 296, 297] (by decide +kernel) (by decide +kernel)) (goodIn_sub (fun _ h => List.mem_cons_of_mem _ (List.mem_append_left _ (List.mem_append_left _ (List.mem_append_right _ h)))) (by decide +kernel))) (goodIn_sub (fun _ h => List.mem_cons_of_mem _ (List.mem_append_left _ (List.mem_append_right _ h))) (by decide +kernel))
set_option maxRecDepth 20000 in
theorem gL_act_X1_raise : GoodIn wsL_act (wsV RL 24 RX1 yX1_raise wsX1_raise) := goodIn_app (goodIn_of _ (by decide +kernel)) ggL_act_X1_raise
set_option maxRecDepth 20000 in
theorem ggL_act_X2_isStaying : GoodIn wsL_act wsX2_isStaying := goodIn_r _ [47, 48, 283, 284, 285, 286] (by decide +kernel) (by decide +kernel)
set_option maxRecDepth 20000 in
theorem gL_act_X2_isStaying : GoodIn wsL_act (wsV RL 29 RX2 yX2_isStaying wsX2_isStaying) := goodIn_app (goodIn_of _ (by decide +kernel)) ggL_act_X2_isStaying
set_option maxRecDepth 20000 in
theorem ggL_act_X2_less : GoodIn wsL_act wsX2_less := goodIn_r _ [51, 52] (by decide +kernel) (by decide +kernel)
set_option maxRecDepth 20000 in
theorem gL_act_X2_less : GoodIn wsL_act (va_wsS RL 36 yX2_less wsX2_less) := goodIn_app (goodIn_of _ (by decide +kernel)) ggL_act_X2_less
set_option maxRecDepth 20000 in
theorem ggL_act_X2_more : GoodIn wsL_act wsX2_more := goodIn_r _ [55, 52] (by decide +kernel) (by decide +kernel)
set_option maxRecDepth 20000 in
theorem gL_act_X2_more : GoodIn wsL_act (va_wsS RL 40 yX2_more wsX2_more) := goodIn_app (goodIn_of _ (by decide +kernel)) ggL_act_X2_more
set_option maxRecDepth 20000 in
theorem ggL_act_X1_fix : GoodIn wsL_act wsX1_fix := goodIn_ca (goodIn_ca (goodIn_r _ [59, 21, 15, 16, 17, 13, 18, 19, 20, 22, 23, 24, 25, 26, 27, 60, 61, 62, 63, 64, 65, 66, 67, 68, 69, 70, 71, 72, 73, 74, 75, 76, 77, 78, 79, 80, 81, 82, 83, 84, 287, 288, 289, 290, 291, 292, 293, 294, 295, 296, 297] (by decide +kernel) (by decide +kernel)) (goodIn_sub (fun _ h => List.mem_cons_of_mem _ (List.mem_append_left _ (List.mem_append_left _ (List.mem_append_right _ h)))) (by decide +kernel))) (goodIn_sub (fun _ h => List.mem_cons_of_mem _ (List.mem_append_right _ h)) (by decide +kernel))
set_option maxRecDepth 20000 in
theorem gL_act_X1_fix : GoodIn wsL_act (wsV RL 44 RX1 yX1_fix wsX1_fix) := goodIn_app (goodIn_of _ (by decide +kernel)) ggL_act_X1_fix
set_option maxRecDepth 20000 in
theorem ggL_act_X2_canFlip : GoodIn wsL_act wsX2_canFlip := goodIn_r _ [88, 89, 90, 91, 92, 46, 93, 3, 94, 95, 96, 97, 98, 44, 45, 47, 48, 99, 100, 101, 102, 283, 284, 285, 286] (by decide +kernel) (by decide +kernel)
set_option maxRecDepth 20000 in
theorem gL_act_X2_canFlip : GoodIn wsL_act (wsV RL 48 RX2 yX2_canFlip wsX2_canFlip) := goodIn_app (goodIn_of _ (by decide +kernel)) ggL_act_X2_canFlip
set_option maxRecDepth 20000 in
theorem ggL_act_X1_flip : GoodIn wsL_act wsX1_flip := goodIn_ca (goodIn_ca (goodIn_r _ [106, 64, 65, 21, 107, 108, 109, 110, 111, 112, 113, 114, 15, 16, 17, 13, 18, 19, 20, 22, 23, 24, 25, 26, 27, 60, 61, 62, 63, 66, 67, 68, 69, 70, 71, 72, 73, 74, 115, 116, 117, 118, 119, 120, 121, 122, 123, 76, 77, 78, 79, 80, 124, 125, 126, 127, 128, 129, 130, 131, 132, 133, 134, 135, 136, 137, 138, 139, 140, 141, 142, 143, 144, 145, 146, 147, 148, 149, 150, 151, 152, 153, 154, 155, 156, 157, 158, 159, 160, 161, 162, 163, 164, 165, 166, 287, 288, 289, 290, 291, 292, 293, 294, 295, 296, 297] (by decide +kernel) (by decide +kernel)) (goodIn_sub (fun _ h => List.mem_cons_of_mem _ (List.mem_append_right _ h)) (by decide +kernel))) (goodIn_sub (fun _ h => List.mem_cons_of_mem _ (List.mem_append_left _ (List.mem_append_left _ (List.mem_append_right _ h)))) (by decide +kernel))
set_option maxRecDepth 20000 in
theorem gL_act_X1_flip : GoodIn wsL_act (wsV RL 51 RX1 yX1_flip wsX1_flip) := goodIn_app (goodIn_of _ (by decide +kernel)) ggL_act_X1_flip
set_option maxRecDepth 20000 in
theorem ggL_act_X2_flip : GoodIn wsL_act wsX2_flip := goodIn_r _ [170, 171, 172, 109, 110, 111, 173, 113, 114, 90, 91, 92, 46, 93, 3, 94, 95, 96, 97, 174, 175, 176, 177, 178, 179, 180, 181, 182, 183, 184, 50, 51, 52, 185, 186, 187, 188, 189, 54, 55, 283, 284, 285, 286] (by decide +kernel) (by decide +kernel)
set_option maxRecDepth 20000 in
theorem gL_act_X2_flip : GoodIn wsL_act (wsV RL 54 RX2 yX2_flip wsX2_flip) := goodIn_app (goodIn_of _ (by decide +kernel)) ggL_act_X2_flip
set_option maxRecDepth 20000 in
theorem ggL_act_X1_settle : GoodIn wsL_act wsX1_settle := goodIn_r _ [193, 21, 107, 194, 195, 196, 25, 197, 198, 199, 200, 201, 27, 202, 203, 204, 205, 70, 71, 72, 73, 74, 119, 120, 121, 122, 124, 125, 126, 127, 128, 129, 130, 131, 132, 133, 206, 207, 208, 209, 123, 76, 77, 78, 79, 80, 23, 24, 26, 210, 140, 141, 142, 143, 144, 145, 146, 134, 135, 136, 137, 147, 148, 149, 150, 151, 152, 153, 154, 155, 156, 157, 158, 159, 160, 109, 110, 111, 161, 113, 114, 162, 163, 164, 165, 166, 287, 288, 289, 290, 291, 292, 293, 294, 295, 296, 297] (by decide +kernel) (by decide +kernel)
set_option maxRecDepth 20000 in
theorem gL_act_X1_settle : GoodIn wsL_act (wsV RL 55 RX1 yX1_settle wsX1_settle) := goodIn_app (goodIn_of _ (by decide +kernel)) ggL_act_X1_settle
set_option maxRecDepth 20000 in
theorem ggL_act_X2_settle : GoodIn wsL_act wsX2_settle := goodIn_r _ [214, 89, 98, 44, 45, 46, 47, 48, 215, 216, 217, 218, 90, 91, 92, 93, 3, 94, 95, 96, 97, 174, 175, 176, 219, 220, 221, 222, 223, 224, 168, 169, 170, 171, 172, 109, 110, 111, 173, 113, 114, 177, 178, 179, 180, 181, 182, 183, 184, 50, 51, 52, 185, 186, 187, 188, 189, 54, 55, 283, 284, 285, 286] (by decide +kernel) (by decide +kernel)
set_option maxRecDepth 20000 in
theorem gL_act_X2_settle : GoodIn wsL_act (wsV RL 59 RX2 yX2_settle wsX2_settle) := goodIn_app (goodIn_of _ (by decide +kernel)) ggL_act_X2_settle
set_option maxRecDepth 20000 in
theorem ggL_act_X2_cairnAt : GoodIn wsL_act wsX2_cairnAt := goodIn_r _ [228, 89, 283, 284, 285, 286] (by decide +kernel) (by decide +kernel)
set_option maxRecDepth 20000 in
theorem gL_act_X2_cairnAt : GoodIn wsL_act (wsV RL 60 RX2 yX2_cairnAt wsX2_cairnAt) := goodIn_app (goodIn_of _ (by decide +kernel)) ggL_act_X2_cairnAt
set_option maxRecDepth 20000 in
theorem ggL_act_X2_build : GoodIn wsL_act wsX2_build := goodIn_r _ [232, 89, 3, 94, 48, 189, 54, 46, 55, 52, 233, 234, 235, 236, 99, 100, 101, 102, 177, 178, 179, 180, 181, 182, 183, 184, 50, 51, 185, 186, 187, 188, 174, 175, 176, 283, 284, 285, 286] (by decide +kernel) (by decide +kernel)
set_option maxRecDepth 20000 in
theorem gL_act_X2_build : GoodIn wsL_act (wsV RL 63 RX2 yX2_build wsX2_build) := goodIn_app (goodIn_of _ (by decide +kernel)) ggL_act_X2_build
set_option maxRecDepth 20000 in
theorem ggL_act_X1_build : GoodIn wsL_act wsX1_build := goodIn_ca (goodIn_ca (goodIn_r _ [240, 64, 65, 21, 241, 242, 243, 244, 13, 245, 32, 33, 28, 29, 30, 31, 246, 247, 248, 249, 250, 251, 252, 25, 253, 27, 124, 125, 126, 127, 128, 129, 130, 131, 132, 133, 254, 255, 256, 257, 258, 259, 260, 261, 159, 262, 263, 264, 265, 266, 267, 268, 269, 166, 134, 135, 136, 137, 270, 271, 272, 273, 274, 275, 276, 277, 70, 71, 72, 73, 74, 278, 279, 280, 281, 143, 144, 145, 146, 147, 148, 149, 150, 80, 23, 24, 26, 151, 152, 153, 154, 123, 76, 77, 78, 79, 282, 82, 83, 84, 155, 156, 157, 158, 160, 109, 110, 111, 161, 113, 114, 162, 163, 164, 165, 39, 40, 41, 42, 38, 287, 288, 289, 290, 291, 292, 293, 294, 295, 296, 297] (by decide +kernel) (by decide +kernel)) (goodIn_sub (fun _ h => List.mem_cons_of_mem _ (List.mem_append_right _ h)) (by decide +kernel))) (goodIn_sub (fun _ h => List.mem_cons_of_mem _ (List.mem_append_left _ (List.mem_append_right _ h))) (by decide +kernel))
set_option maxRecDepth 20000 in
theorem gL_act_X1_build : GoodIn wsL_act (wsV RL 67 RX1 yX1_build wsX1_build) := goodIn_app (goodIn_of _ (by decide +kernel)) ggL_act_X1_build
