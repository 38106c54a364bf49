set_option maxRecDepth 20000 in
theorem ggL_law_X1_init : GoodIn wsL_law wsX1_init := goodIn_r _ [9, 10, 11, 12, 13, 14, 15, 16, 17, 18, 19, 20, 21, 22, 23, 24, 25, 26, 27, 28, 29, 30, 31, 32, 33, 34, 35, 36, 37, 38, 39, 40, 41, 42, 43, 44, 45, 46, 47, 48, 49, 50, 51, 52, 53, 54, 55, 56, 57, 58, 59, 60, 61, 62, 63, 64, 65, 66, 67, 68, 69, 70, 71, 72, 73, 74, 75, 76, 77, 78, 657, 658, 659, 660, 661, 662, 663, 644, 645, 646, 647] (by decide +kernel) (by decide +kernel)
set_option maxRecDepth 20000 in
theorem gL_law_X1_init : GoodIn wsL_law (wsX1_init) := ggL_law_X1_init
set_option maxRecDepth 20000 in
theorem ggL_law_X2_init : GoodIn wsL_law wsX2_init := goodIn_r _ [81, 82, 11, 12, 83, 18, 84, 85, 86, 87, 88, 89, 90, 91, 92, 93, 5, 94, 95, 96, 97, 98, 99, 65, 66, 67, 100, 69, 70, 648, 649, 650, 651, 652, 653, 654, 655, 656] (by decide +kernel) (by decide +kernel)
set_option maxRecDepth 20000 in
theorem gL_law_X2_init : GoodIn wsL_law (wsX2_init) := ggL_law_X2_init
set_option maxRecDepth 20000 in
theorem ggL_law_L_build : GoodIn wsL_law wsL_build := goodIn_ca (goodIn_ca (goodIn_r _ [104, 105, 106, 107, 108, 109, 2, 110, 111, 112, 16, 113, 114, 115, 116, 117, 118, 119, 120, 121, 122, 123, 124, 125, 126, 127, 128, 129, 130, 15, 131, 34, 39, 40, 41, 42, 25, 43, 44, 45, 46, 26, 132, 133, 134, 135, 136, 137, 138, 139, 63, 140, 141, 142, 143, 144, 145, 146, 147, 29, 47, 48, 49, 50, 30, 31, 32, 33, 148, 149, 150, 151, 71, 72, 73, 74, 27, 152, 153, 154, 155, 156, 157, 158, 159, 51, 52, 53, 54, 55, 56, 57, 58, 35, 36, 37, 38, 160, 161, 162, 163, 28, 164, 165, 166, 167, 59, 60, 61, 62, 64, 65, 66, 67, 68, 69, 70, 75, 76, 77, 78, 168, 169, 170, 171, 19, 644, 645, 646, 647, 657, 658, 659, 660, 661, 662, 663] (by decide +kernel) (by decide +kernel)) (goodIn_sub (fun _ h => List.mem_append_left _ (List.mem_append_left _ (List.mem_append_right _ h))) (by decide +kernel))) (goodIn_sub (fun _ h => List.mem_append_left _ (List.mem_append_right _ h)) (by decide +kernel))
set_option maxRecDepth 20000 in
theorem gL_law_L_build : GoodIn wsL_law (va_wsS RL 65 yL_build wsL_build) := goodIn_app (goodIn_of _ (by decide +kernel)) ggL_law_L_build
set_option maxRecDepth 20000 in
theorem ggL_law_X2_build : GoodIn wsL_law wsX2_build := goodIn_r _ [175, 176, 83, 177, 178, 5, 179, 180, 181, 182, 183, 184, 185, 186, 187, 188, 189, 190, 84, 85, 191, 192, 193, 194, 18, 95, 87, 86, 90, 195, 196, 197, 198, 199, 200, 66, 201, 202, 203, 204, 205, 206, 207, 208, 209, 210, 211, 212, 213, 214, 215, 216, 217, 218, 219, 220, 221, 222, 223, 224, 225, 226, 227, 228, 229, 91, 92, 93, 94, 96, 97, 98, 99, 65, 67, 100, 69, 70, 230, 231, 232, 233, 234, 235, 236, 237, 238, 239, 240, 241, 648, 649, 650, 651, 652, 653, 654, 655, 656] (by decide +kernel) (by decide +kernel)
set_option maxRecDepth 20000 in
theorem gL_law_X2_build : GoodIn wsL_law (wsV RL 70 RX2 yX2_build wsX2_build) := goodIn_app (goodIn_of _ (by decide +kernel)) ggL_law_X2_build
set_option maxRecDepth 20000 in
theorem ggL_law_X2_thrown : GoodIn wsL_law wsX2_thrown := goodIn_r _ [245, 176, 648, 649, 650, 651, 652, 653, 654, 655, 656] (by decide +kernel) (by decide +kernel)
set_option maxRecDepth 20000 in
theorem gL_law_X2_thrown : GoodIn wsL_law (wsV RL 71 RX2 yX2_thrown wsX2_thrown) := goodIn_app (goodIn_of _ (by decide +kernel)) ggL_law_X2_thrown
set_option maxRecDepth 20000 in
theorem ggL_law_L_raise : GoodIn wsL_law wsL_raise := goodIn_ca (goodIn_ca (goodIn_r _ [248, 249, 105, 250, 251, 252, 2, 253, 254, 255, 256, 257, 258, 259, 16, 260, 56, 57, 15, 58, 34, 120, 121, 122, 123, 118, 119, 261, 262, 263, 264, 19, 168, 169, 170, 171, 644, 645, 646, 647, 657, 658, 659, 660, 661, 662, 663] (by decide +kernel) (by decide +kernel)) (goodIn_sub (fun _ h => List.mem_append_right _ h) (by decide +kernel))) (goodIn_sub (fun _ h => List.mem_append_left _ (List.mem_append_right _ h)) (by decide +kernel))
set_option maxRecDepth 20000 in
theorem gL_law_L_raise : GoodIn wsL_law (va_wsS RL 75 yL_raise wsL_raise) := goodIn_app (goodIn_of _ (by decide +kernel)) ggL_law_L_raise
set_option maxRecDepth 20000 in
theorem ggL_law_X2_raise : GoodIn wsL_law wsX2_raise := goodIn_r _ [268, 176, 86, 269, 270, 271, 5, 272, 83, 180, 181, 182, 183, 184, 185, 186, 648, 649, 650, 651, 652, 653, 654, 655, 656] (by decide +kernel) (by decide +kernel)
set_option maxRecDepth 20000 in
theorem gL_law_X2_raise : GoodIn wsL_law (wsV RL 78 RX2 yX2_raise wsX2_raise) := goodIn_app (goodIn_of _ (by decide +kernel)) ggL_law_X2_raise
set_option maxRecDepth 20000 in
theorem ggL_law_L_fix : GoodIn wsL_law wsL_fix := goodIn_ca (goodIn_ca (goodIn_r _ [275, 249, 106, 276, 277, 278, 2, 279, 16, 254, 255, 256, 257, 258, 259, 260, 56, 57, 15, 58, 34, 280, 281, 282, 283, 111, 112, 284, 285, 286, 287, 71, 72, 73, 74, 27, 288, 161, 162, 163, 28, 55, 289, 165, 166, 167, 644, 645, 646, 647, 657, 658, 659, 660, 661, 662, 663] (by decide +kernel) (by decide +kernel)) (goodIn_sub (fun _ h => List.mem_append_right _ h) (by decide +kernel))) (goodIn_sub (fun _ h => List.mem_append_left _ (List.mem_append_left _ (List.mem_append_right _ h))) (by decide +kernel))
set_option maxRecDepth 20000 in
theorem gL_law_L_fix : GoodIn wsL_law (va_wsS RL 79 yL_fix wsL_fix) := goodIn_app (goodIn_of _ (by decide +kernel)) ggL_law_L_fix
set_option maxRecDepth 20000 in
theorem ggL_law_X2_fix : GoodIn wsL_law wsX2_fix := goodIn_r _ [293, 176, 90, 269, 270, 271, 5, 272, 83, 180, 181, 182, 230, 231, 232, 233, 95, 234, 235, 236, 237, 238, 239, 240, 241, 202, 203, 204, 205, 87, 214, 215, 216, 217, 648, 649, 650, 651, 652, 653, 654, 655, 656] (by decide +kernel) (by decide +kernel)
set_option maxRecDepth 20000 in
theorem gL_law_X2_fix : GoodIn wsL_law (wsV RL 82 RX2 yX2_fix wsX2_fix) := goodIn_app (goodIn_of _ (by decide +kernel)) ggL_law_X2_fix
set_option maxRecDepth 20000 in
theorem ggL_law_L_flip : GoodIn wsL_law wsL_flip := goodIn_ca (goodIn_ca (goodIn_r _ [296, 249, 106, 297, 298, 299, 2, 300, 111, 112, 16, 20, 301, 65, 66, 67, 302, 69, 70, 254, 255, 256, 257, 258, 259, 260, 56, 57, 15, 58, 34, 280, 281, 282, 283, 284, 285, 286, 287, 71, 72, 73, 74, 27, 303, 304, 305, 306, 307, 308, 309, 310, 160, 161, 162, 163, 28, 55, 39, 40, 41, 42, 25, 43, 44, 45, 46, 26, 47, 48, 49, 50, 311, 312, 313, 314, 315, 156, 157, 158, 159, 51, 52, 53, 54, 35, 36, 37, 38, 59, 60, 61, 62, 63, 64, 68, 75, 76, 77, 78, 29, 644, 645, 646, 647, 657, 658, 659, 660, 661, 662, 663] (by decide +kernel) (by decide +kernel)) (goodIn_sub (fun _ h => List.mem_append_left _ (List.mem_append_left _ (List.mem_append_right _ h))) (by decide +kernel))) (goodIn_sub (fun _ h => List.mem_append_right _ h) (by decide +kernel))
set_option maxRecDepth 20000 in
theorem gL_law_L_flip : GoodIn wsL_law (va_wsS RL 83 yL_flip wsL_flip) := goodIn_app (goodIn_of _ (by decide +kernel)) ggL_law_L_flip
set_option maxRecDepth 20000 in
theorem ggL_law_X2_flip : GoodIn wsL_law wsX2_flip := goodIn_r _ [319, 176, 269, 270, 271, 5, 272, 83, 180, 181, 182, 183, 184, 185, 186, 320, 321, 322, 323, 90, 84, 85, 230, 231, 232, 233, 95, 234, 235, 236, 237, 238, 239, 240, 241, 202, 203, 204, 205, 87, 324, 325, 326, 327, 206, 207, 208, 209, 328, 329, 330, 331, 332, 99, 65, 66, 67, 100, 69, 70, 96, 97, 98, 222, 223, 224, 225, 226, 227, 228, 229, 91, 92, 93, 94, 214, 215, 216, 217, 648, 649, 650, 651, 652, 653, 654, 655, 656] (by decide +kernel) (by decide +kernel)
set_option maxRecDepth 20000 in
theorem gL_law_X2_flip : GoodIn wsL_law (wsV RL 85 RX2 yX2_flip wsX2_flip) := goodIn_app (goodIn_of _ (by decide +kernel)) ggL_law_X2_flip
set_option maxRecDepth 20000 in
theorem ggL_law_X1_settle : GoodIn wsL_law wsX1_settle := goodIn_r _ [336, 16, 20, 337, 338, 339, 15, 340, 341, 342, 343, 344, 34, 345, 346, 347, 348, 71, 72, 73, 74, 27, 307, 308, 309, 310, 39, 40, 41, 42, 25, 43, 44, 45, 46, 26, 349, 350, 351, 352, 160, 161, 162, 163, 28, 55, 56, 57, 58, 353, 313, 314, 315, 156, 157, 158, 159, 47, 48, 49, 50, 51, 52, 53, 54, 35, 36, 37, 38, 59, 60, 61, 62, 63, 64, 65, 66, 67, 68, 69, 70, 75, 76, 77, 78, 29, 644, 645, 646, 647, 657, 658, 659, 660, 661, 662, 663] (by decide +kernel) (by decide +kernel)
set_option maxRecDepth 20000 in
theorem gL_law_X1_settle : GoodIn wsL_law (wsV RL 86 RX1 yX1_settle wsX1_settle) := goodIn_app (goodIn_of _ (by decide +kernel)) ggL_law_X1_settle
set_option maxRecDepth 20000 in
theorem ggL_law_X2_settle : GoodIn wsL_law wsX2_settle := goodIn_r _ [357, 176, 358, 359, 360, 5, 361, 332, 362, 363, 364, 365, 83, 90, 366, 367, 368, 369, 84, 85, 230, 231, 232, 233, 95, 234, 235, 236, 237, 238, 239, 240, 241, 202, 203, 204, 205, 87, 324, 325, 326, 327, 370, 371, 372, 373, 206, 207, 208, 209, 328, 329, 330, 331, 99, 65, 66, 67, 100, 69, 70, 96, 97, 98, 222, 223, 224, 225, 226, 227, 228, 229, 91, 92, 93, 94, 214, 215, 216, 217, 648, 649, 650, 651, 652, 653, 654, 655, 656] (by decide +kernel) (by decide +kernel)
set_option maxRecDepth 20000 in
theorem gL_law_X2_settle : GoodIn wsL_law (wsV RL 89 RX2 yX2_settle wsX2_settle) := goodIn_app (goodIn_of _ (by decide +kernel)) ggL_law_X2_settle
set_option maxRecDepth 20000 in
theorem ggL_law_L_told : GoodIn wsL_law wsL_told := goodIn_ca (goodIn_r _ [376, 249, 377, 378, 379, 2, 380, 254, 255, 256, 257, 258, 259, 16, 260, 56, 57, 15, 58, 34, 381, 382, 383, 384, 385, 386, 387, 388, 389, 40, 41, 42, 25, 390, 44, 45, 46, 26, 261, 262, 263, 264, 19, 391, 392, 393, 394, 395, 285, 286, 287, 71, 72, 73, 74, 27, 396, 397, 398, 399, 644, 645, 646, 647, 657, 658, 659, 660, 661, 662, 663] (by decide +kernel) (by decide +kernel)) (goodIn_sub (fun _ h => List.mem_append_right _ h) (by decide +kernel))
set_option maxRecDepth 20000 in
theorem gL_law_L_told : GoodIn wsL_law (va_wsS RL 90 yL_told wsL_told) := goodIn_app (goodIn_of _ (by decide +kernel)) ggL_law_L_told
set_option maxRecDepth 20000 in
theorem ggL_law_X2_told : GoodIn wsL_law wsX2_told := goodIn_r _ [403, 176, 269, 270, 271, 5, 272, 83, 180, 181, 182, 404, 405, 406, 407, 84, 85, 86, 95, 408, 409, 410, 411, 230, 231, 232, 233, 234, 235, 236, 237, 238, 239, 240, 241, 202, 203, 204, 205, 87, 183, 184, 185, 186, 648, 649, 650, 651, 652, 653, 654, 655, 656] (by decide +kernel) (by decide +kernel)
set_option maxRecDepth 20000 in
theorem gL_law_X2_told : GoodIn wsL_law (wsV RL 92 RX2 yX2_told wsX2_told) := goodIn_app (goodIn_of _ (by decide +kernel)) ggL_law_X2_told
set_option maxRecDepth 20000 in
theorem ggL_law_L_triangle : GoodIn wsL_law wsL_triangle := goodIn_ca (goodIn_r _ [414, 249, 415, 416, 417, 2, 418, 258, 259, 16, 419, 381, 382, 383, 384, 420, 421, 422, 423, 424, 425, 426, 15, 427, 428, 200, 66, 201, 144, 145, 146, 147, 29, 39, 40, 41, 42, 25, 43, 44, 45, 46, 26, 47, 48, 49, 50, 429, 644, 645, 646, 647, 657, 658, 659, 660, 661, 662, 663] (by decide +kernel) (by decide +kernel)) (goodIn_sub (fun _ h => List.mem_append_right _ h) (by decide +kernel))
set_option maxRecDepth 20000 in
theorem gL_law_L_triangle : GoodIn wsL_law (va_wsS RL 93 yL_triangle wsL_triangle) := goodIn_app (goodIn_of _ (by decide +kernel)) ggL_law_L_triangle
set_option maxRecDepth 20000 in
theorem ggL_law_X2_triangle : GoodIn wsL_law wsX2_triangle := goodIn_r _ [433, 176, 95, 180, 181, 5, 182, 434, 435, 436, 437, 202, 203, 204, 205, 87, 210, 211, 212, 213, 84, 85, 199, 200, 66, 201, 206, 207, 208, 209, 183, 184, 185, 186, 648, 649, 650, 651, 652, 653, 654, 655, 656] (by decide +kernel) (by decide +kernel)
set_option maxRecDepth 20000 in
theorem gL_law_X2_triangle : GoodIn wsL_law (wsV RL 95 RX2 yX2_triangle wsX2_triangle) := goodIn_app (goodIn_of _ (by decide +kernel)) ggL_law_X2_triangle
set_option maxRecDepth 20000 in
theorem ggL_law_L_edge : GoodIn wsL_law wsL_edge := goodIn_ca (goodIn_r _ [440, 249, 441, 442, 443, 2, 444, 254, 255, 256, 257, 258, 259, 16, 260, 56, 57, 15, 58, 34, 381, 382, 383, 384, 445, 446, 447, 448, 449, 450, 451, 452, 395, 285, 286, 287, 71, 72, 73, 74, 27, 307, 308, 309, 310, 160, 161, 162, 163, 28, 55, 345, 346, 347, 348, 39, 40, 41, 42, 25, 43, 44, 45, 46, 26, 349, 350, 351, 352, 453, 304, 305, 306, 47, 48, 49, 50, 644, 645, 646, 647, 657, 658, 659, 660, 661, 662, 663] (by decide +kernel) (by decide +kernel)) (goodIn_sub (fun _ h => List.mem_append_right _ h) (by decide +kernel))
set_option maxRecDepth 20000 in
theorem gL_law_L_edge : GoodIn wsL_law (va_wsS RL 96 yL_edge wsL_edge) := goodIn_app (goodIn_of _ (by decide +kernel)) ggL_law_L_edge
set_option maxRecDepth 20000 in
theorem ggL_law_X2_edge : GoodIn wsL_law wsX2_edge := goodIn_r _ [457, 176, 269, 270, 271, 5, 272, 83, 180, 181, 182, 458, 459, 460, 461, 90, 230, 231, 232, 233, 95, 234, 235, 236, 237, 238, 239, 240, 241, 202, 203, 204, 205, 87, 366, 367, 368, 369, 84, 85, 324, 325, 326, 327, 370, 371, 372, 373, 206, 207, 208, 209, 320, 321, 322, 323, 183, 184, 185, 186, 648, 649, 650, 651, 652, 653, 654, 655, 656] (by decide +kernel) (by decide +kernel)
set_option maxRecDepth 20000 in
theorem gL_law_X2_edge : GoodIn wsL_law (wsV RL 98 RX2 yX2_edge wsX2_edge) := goodIn_app (goodIn_of _ (by decide +kernel)) ggL_law_X2_edge
set_option maxRecDepth 20000 in
theorem ggL_law_L_count : GoodIn wsL_law wsL_count := goodIn_ca (goodIn_r _ [464, 249, 465, 466, 467, 2, 468, 381, 382, 383, 384, 258, 259, 469, 470, 471, 472, 16, 113, 419, 20, 473, 474, 475, 15, 476, 34, 477, 450, 451, 452, 395, 285, 286, 287, 71, 72, 73, 74, 27, 307, 308, 309, 310, 160, 161, 162, 163, 28, 55, 56, 57, 58, 345, 346, 347, 348, 39, 40, 41, 42, 25, 43, 44, 45, 46, 26, 349, 350, 351, 352, 453, 304, 305, 306, 47, 48, 49, 50, 644, 645, 646, 647, 657, 658, 659, 660, 661, 662, 663] (by decide +kernel) (by decide +kernel)) (goodIn_sub (fun _ h => List.mem_append_right _ h) (by decide +kernel))
set_option maxRecDepth 20000 in
theorem gL_law_L_count : GoodIn wsL_law (va_wsS RL 99 yL_count wsL_count) := goodIn_app (goodIn_of _ (by decide +kernel)) ggL_law_L_count
set_option maxRecDepth 20000 in
theorem ggL_law_X2_count : GoodIn wsL_law wsX2_count := goodIn_r _ [481, 176, 180, 181, 5, 182, 482, 483, 484, 485, 83, 95, 332, 486, 487, 488, 489, 458, 459, 460, 461, 90, 230, 231, 232, 233, 234, 235, 236, 237, 238, 239, 240, 241, 202, 203, 204, 205, 87, 366, 367, 368, 369, 84, 85, 324, 325, 326, 327, 370, 371, 372, 373, 206, 207, 208, 209, 320, 321, 322, 323, 183, 184, 185, 186, 648, 649, 650, 651, 652, 653, 654, 655, 656] (by decide +kernel) (by decide +kernel)
set_option maxRecDepth 20000 in
theorem gL_law_X2_count : GoodIn wsL_law (wsV RL 102 RX2 yX2_count wsX2_count) := goodIn_app (goodIn_of _ (by decide +kernel)) ggL_law_X2_count
set_option maxRecDepth 20000 in
theorem ggL_law_L_at : GoodIn wsL_law wsL_at := goodIn_ca (goodIn_r _ [492, 105, 493, 494, 495, 2, 496, 16, 114, 115, 116, 117, 118, 119, 497, 137, 138, 15, 139, 63, 140, 141, 142, 143, 144, 145, 146, 147, 29, 47, 48, 49, 50, 39, 40, 41, 42, 25, 43, 44, 45, 46, 26, 644, 645, 646, 647, 657, 658, 659, 660, 661, 662, 663] (by decide +kernel) (by decide +kernel)) (goodIn_sub (fun _ h => List.mem_append_left _ (List.mem_append_right _ h)) (by decide +kernel))
set_option maxRecDepth 20000 in
theorem gL_law_L_at : GoodIn wsL_law (va_wsS RL 103 yL_at wsL_at) := goodIn_app (goodIn_of _ (by decide +kernel)) ggL_law_L_at
set_option maxRecDepth 20000 in
theorem ggL_law_X2_at : GoodIn wsL_law wsX2_at := goodIn_r _ [501, 176, 177, 178, 5, 179, 180, 181, 182, 502, 503, 504, 505, 195, 196, 197, 198, 199, 200, 66, 201, 202, 203, 204, 205, 87, 206, 207, 208, 209, 84, 85, 210, 211, 212, 213, 183, 184, 185, 186, 648, 649, 650, 651, 652, 653, 654, 655, 656] (by decide +kernel) (by decide +kernel)
set_option maxRecDepth 20000 in
theorem gL_law_X2_at : GoodIn wsL_law (wsV RL 105 RX2 yX2_at wsX2_at) := goodIn_app (goodIn_of _ (by decide +kernel)) ggL_law_X2_at
set_option maxRecDepth 20000 in
theorem ggL_law_L_height : GoodIn wsL_law wsL_height := goodIn_ca (goodIn_r _ [508, 105, 509, 510, 511, 2, 512, 16, 513, 200, 66, 201, 114, 115, 116, 117, 118, 119, 497, 137, 138, 15, 139, 63, 140, 141, 142, 143, 144, 145, 146, 147, 29, 47, 48, 49, 50, 39, 40, 41, 42, 25, 43, 44, 45, 46, 26, 429, 424, 425, 426, 427, 428, 261, 262, 263, 264, 19, 514, 644, 645, 646, 647, 657, 658, 659, 660, 661, 662, 663] (by decide +kernel) (by decide +kernel)) (goodIn_sub (fun _ h => List.mem_append_left _ (List.mem_append_right _ h)) (by decide +kernel))
set_option maxRecDepth 20000 in
theorem gL_law_L_height : GoodIn wsL_law (va_wsS RL 106 yL_height wsL_height) := goodIn_app (goodIn_of _ (by decide +kernel)) ggL_law_L_height
set_option maxRecDepth 20000 in
theorem ggL_law_X2_height : GoodIn wsL_law wsX2_height := goodIn_r _ [518, 176, 86, 199, 200, 66, 201, 177, 178, 5, 179, 180, 181, 182, 183, 184, 185, 186, 502, 503, 504, 505, 195, 196, 197, 198, 202, 203, 204, 205, 87, 206, 207, 208, 209, 84, 85, 210, 211, 212, 213, 648, 649, 650, 651, 652, 653, 654, 655, 656] (by decide +kernel) (by decide +kernel)
set_option maxRecDepth 20000 in
theorem gL_law_X2_height : GoodIn wsL_law (wsV RL 108 RX2 yX2_height wsX2_height) := goodIn_app (goodIn_of _ (by decide +kernel)) ggL_law_X2_height
set_option maxRecDepth 20000 in
theorem ggL_law_L_nearest : GoodIn wsL_law wsL_nearest := goodIn_ca (goodIn_r _ [521, 105, 522, 523, 524, 2, 525, 16, 114, 115, 116, 117, 118, 119, 526, 527, 528, 15, 529, 34, 530, 531, 532, 533, 39, 40, 41, 42, 25, 43, 44, 45, 46, 26, 644, 645, 646, 647, 657, 658, 659, 660, 661, 662, 663] (by decide +kernel) (by decide +kernel)) (goodIn_sub (fun _ h => List.mem_append_left _ (List.mem_append_right _ h)) (by decide +kernel))
set_option maxRecDepth 20000 in
theorem gL_law_L_nearest : GoodIn wsL_law (va_wsS RL 109 yL_nearest wsL_nearest) := goodIn_app (goodIn_of _ (by decide +kernel)) ggL_law_L_nearest
set_option maxRecDepth 20000 in
theorem ggL_law_X2_nearest : GoodIn wsL_law wsX2_nearest := goodIn_r _ [537, 176, 83, 177, 178, 5, 179, 180, 181, 182, 183, 184, 185, 186, 538, 539, 540, 541, 84, 85, 648, 649, 650, 651, 652, 653, 654, 655, 656] (by decide +kernel) (by decide +kernel)
set_option maxRecDepth 20000 in
theorem gL_law_X2_nearest : GoodIn wsL_law (wsV RL 111 RX2 yX2_nearest wsX2_nearest) := goodIn_app (goodIn_of _ (by decide +kernel)) ggL_law_X2_nearest
set_option maxRecDepth 20000 in
theorem ggL_law_L_circles : GoodIn wsL_law wsL_circles := goodIn_ca (goodIn_r _ [544, 105, 545, 546, 547, 2, 548, 16, 114, 115, 116, 117, 118, 119, 549, 550, 551, 15, 552, 63, 144, 145, 146, 147, 29, 349, 350, 351, 352, 39, 40, 41, 42, 25, 43, 44, 45, 46, 26, 644, 645, 646, 647, 657, 658, 659, 660, 661, 662, 663] (by decide +kernel) (by decide +kernel)) (goodIn_sub (fun _ h => List.mem_append_left _ (List.mem_append_right _ h)) (by decide +kernel))
set_option maxRecDepth 20000 in
theorem gL_law_L_circles : GoodIn wsL_law (va_wsS RL 112 yL_circles wsL_circles) := goodIn_app (goodIn_of _ (by decide +kernel)) ggL_law_L_circles
set_option maxRecDepth 20000 in
theorem ggL_law_X2_circles : GoodIn wsL_law wsX2_circles := goodIn_r _ [556, 176, 95, 177, 178, 5, 179, 180, 181, 182, 183, 184, 185, 186, 202, 203, 204, 205, 87, 370, 371, 372, 373, 84, 85, 206, 207, 208, 209, 648, 649, 650, 651, 652, 653, 654, 655, 656] (by decide +kernel) (by decide +kernel)
set_option maxRecDepth 20000 in
theorem gL_law_X2_circles : GoodIn wsL_law (wsV RL 114 RX2 yX2_circles wsX2_circles) := goodIn_app (goodIn_of _ (by decide +kernel)) ggL_law_X2_circles
set_option maxRecDepth 20000 in
theorem ggL_law_L_way : GoodIn wsL_law wsL_way := goodIn_ca (goodIn_r _ [559, 249, 560, 561, 562, 2, 563, 16, 254, 255, 256, 257, 258, 259, 260, 56, 57, 15, 58, 34, 564, 565, 566, 567, 55, 568, 569, 570, 571, 395, 285, 286, 287, 71, 72, 73, 74, 27, 644, 645, 646, 647, 657, 658, 659, 660, 661, 662, 663] (by decide +kernel) (by decide +kernel)) (goodIn_sub (fun _ h => List.mem_append_right _ h) (by decide +kernel))
set_option maxRecDepth 20000 in
theorem gL_law_L_way : GoodIn wsL_law (va_wsS RL 115 yL_way wsL_way) := goodIn_app (goodIn_of _ (by decide +kernel)) ggL_law_L_way
set_option maxRecDepth 20000 in
theorem ggL_law_X2_way : GoodIn wsL_law wsX2_way := goodIn_r _ [575, 176, 18, 83, 269, 270, 271, 5, 272, 180, 181, 182, 183, 184, 185, 186, 230, 231, 232, 233, 95, 234, 235, 236, 237, 238, 239, 240, 241, 202, 203, 204, 205, 87, 648, 649, 650, 651, 652, 653, 654, 655, 656] (by decide +kernel) (by decide +kernel)
set_option maxRecDepth 20000 in
theorem gL_law_X2_way : GoodIn wsL_law (wsV RL 117 RX2 yX2_way wsX2_way) := goodIn_app (goodIn_of _ (by decide +kernel)) ggL_law_X2_way
set_option maxRecDepth 20000 in
theorem ggL_law_X1_settles : GoodIn wsL_law wsX1_settles := goodIn_r _ [579, 17, 16, 580, 581, 582, 15, 583, 34, 63, 25, 26, 27, 28, 29, 584, 585, 586, 337, 338, 339, 340, 341, 342, 343, 344, 345, 346, 347, 348, 71, 72, 73, 74, 307, 308, 309, 310, 39, 40, 41, 42, 43, 44, 45, 46, 349, 350, 351, 352, 160, 161, 162, 163, 55, 56, 57, 58, 353, 313, 314, 315, 156, 157, 158, 159, 47, 48, 49, 50, 51, 52, 53, 54, 35, 36, 37, 38, 59, 60, 61, 62, 64, 65, 66, 67, 68, 69, 70, 75, 76, 77, 78, 644, 645, 646, 647, 657, 658, 659, 660, 661, 662, 663] (by decide +kernel) (by decide +kernel)
set_option maxRecDepth 20000 in
theorem gL_law_X1_settles : GoodIn wsL_law (wsV RL 118 RX1 yX1_settles wsX1_settles) := goodIn_app (goodIn_of _ (by decide +kernel)) ggL_law_X1_settles
set_option maxRecDepth 20000 in
theorem ggL_law_X2_settles : GoodIn wsL_law wsX2_settles := goodIn_r _ [590, 176, 95, 332, 591, 592, 593, 5, 594, 87, 595, 596, 597, 598, 599, 600, 601, 602, 603, 604, 605, 90, 606, 607, 608, 358, 359, 360, 361, 362, 363, 364, 365, 83, 366, 367, 368, 369, 84, 85, 230, 231, 232, 233, 234, 235, 236, 237, 238, 239, 240, 241, 202, 203, 204, 205, 324, 325, 326, 327, 370, 371, 372, 373, 206, 207, 208, 209, 328, 329, 330, 331, 99, 65, 66, 67, 100, 69, 70, 96, 97, 98, 222, 223, 224, 225, 226, 227, 228, 229, 91, 92, 93, 94, 214, 215, 216, 217, 609, 610, 611, 612, 648, 649, 650, 651, 652, 653, 654, 655, 656] (by decide +kernel) (by decide +kernel)
set_option maxRecDepth 20000 in
theorem gL_law_X2_settles : GoodIn wsL_law (wsV RL 121 RX2 yX2_settles wsX2_settles) := goodIn_app (goodIn_of _ (by decide +kernel)) ggL_law_X2_settles
set_option maxRecDepth 20000 in
theorem ggL_law_L_would : GoodIn wsL_law wsL_would := goodIn_ca (goodIn_ca (goodIn_r _ [615, 105, 106, 616, 617, 618, 2, 619, 17, 16, 114, 115, 116, 117, 118, 119, 124, 125, 126, 127, 111, 112, 128, 129, 130, 15, 131, 34, 39, 40, 41, 42, 25, 43, 44, 45, 46, 26, 580, 581, 582, 583, 63, 27, 28, 29, 584, 585, 586, 132, 133, 134, 135, 136, 137, 138, 139, 140, 141, 142, 143, 144, 145, 146, 147, 47, 48, 49, 50, 30, 31, 32, 33, 148, 149, 150, 151, 71, 72, 73, 74, 152, 153, 154, 155, 156, 157, 158, 159, 51, 52, 53, 54, 55, 56, 57, 58, 35, 36, 37, 38, 160, 161, 162, 163, 164, 165, 166, 167, 59, 60, 61, 62, 64, 65, 66, 67, 68, 69, 70, 75, 76, 77, 78, 473, 474, 475, 476, 477, 450, 451, 452, 395, 285, 286, 287, 307, 308, 309, 310, 345, 346, 347, 348, 349, 350, 351, 352, 453, 304, 305, 306, 644, 645, 646, 647, 657, 658, 659, 660, 661, 662, 663] (by decide +kernel) (by decide +kernel)) (goodIn_sub (fun _ h => List.mem_append_left _ (List.mem_append_right _ h)) (by decide +kernel))) (goodIn_sub (fun _ h => List.mem_append_left _ (List.mem_append_left _ (List.mem_append_right _ h))) (by decide +kernel))
set_option maxRecDepth 20000 in
theorem gL_law_L_would : GoodIn wsL_law (va_wsS RL 122 yL_would wsL_would) := goodIn_app (goodIn_of _ (by decide +kernel)) ggL_law_L_would
set_option maxRecDepth 20000 in
theorem ggL_law_X2_would : GoodIn wsL_law wsX2_would := goodIn_r _ [623, 176, 95, 83, 177, 178, 5, 179, 180, 181, 182, 183, 184, 185, 186, 187, 188, 189, 190, 84, 85, 591, 592, 593, 594, 87, 595, 596, 597, 598, 599, 600, 601, 602, 603, 604, 605, 90, 606, 607, 608, 191, 192, 193, 194, 18, 86, 195, 196, 197, 198, 199, 200, 66, 201, 202, 203, 204, 205, 206, 207, 208, 209, 210, 211, 212, 213, 214, 215, 216, 217, 218, 219, 220, 221, 222, 223, 224, 225, 226, 227, 228, 229, 91, 92, 93, 94, 96, 97, 98, 99, 65, 67, 100, 69, 70, 230, 231, 232, 233, 234, 235, 236, 237, 238, 239, 240, 241, 486, 487, 488, 489, 458, 459, 460, 461, 366, 367, 368, 369, 324, 325, 326, 327, 370, 371, 372, 373, 320, 321, 322, 323, 609, 610, 611, 612, 648, 649, 650, 651, 652, 653, 654, 655, 656] (by decide +kernel) (by decide +kernel)
set_option maxRecDepth 20000 in
theorem gL_law_X2_would : GoodIn wsL_law (wsV RL 124 RX2 yX2_would wsX2_would) := goodIn_app (goodIn_of _ (by decide +kernel)) ggL_law_X2_would
set_option maxRecDepth 20000 in
theorem ggL_law_X1_mean : GoodIn wsL_law wsX1_mean := goodIn_r _ [627, 16, 113, 473, 474, 475, 15, 476, 34, 477, 450, 451, 452, 395, 285, 286, 287, 71, 72, 73, 74, 27, 307, 308, 309, 310, 160, 161, 162, 163, 28, 55, 56, 57, 58, 345, 346, 347, 348, 39, 40, 41, 42, 25, 43, 44, 45, 46, 26, 349, 350, 351, 352, 453, 304, 305, 306, 47, 48, 49, 50, 644, 645, 646, 647, 657, 658, 659, 660, 661, 662, 663] (by decide +kernel) (by decide +kernel)
set_option maxRecDepth 20000 in
theorem gL_law_X1_mean : GoodIn wsL_law (wsV RL 125 RX1 yX1_mean wsX1_mean) := goodIn_app (goodIn_of _ (by decide +kernel)) ggL_law_X1_mean
set_option maxRecDepth 20000 in
theorem ggL_law_X2_mean : GoodIn wsL_law wsX2_mean := goodIn_r _ [631, 176, 83, 486, 487, 488, 5, 489, 458, 459, 460, 461, 90, 230, 231, 232, 233, 95, 234, 235, 236, 237, 238, 239, 240, 241, 202, 203, 204, 205, 87, 366, 367, 368, 369, 84, 85, 324, 325, 326, 327, 370, 371, 372, 373, 206, 207, 208, 209, 320, 321, 322, 323, 648, 649, 650, 651, 652, 653, 654, 655, 656] (by decide +kernel) (by decide +kernel)
set_option maxRecDepth 20000 in
theorem gL_law_X2_mean : GoodIn wsL_law (wsV RL 129 RX2 yX2_mean wsX2_mean) := goodIn_app (goodIn_of _ (by decide +kernel)) ggL_law_X2_mean
set_option maxRecDepth 20000 in
theorem ggL_law_X1_digest : GoodIn wsL_law wsX1_digest := goodIn_r _ [635, 636, 637, 16, 113, 419, 469, 470, 471, 2, 472, 20, 473, 474, 475, 15, 476, 34, 477, 450, 451, 452, 395, 285, 286, 287, 71, 72, 73, 74, 27, 307, 308, 309, 310, 160, 161, 162, 163, 28, 55, 56, 57, 58, 345, 346, 347, 348, 39, 40, 41, 42, 25, 43, 44, 45, 46, 26, 349, 350, 351, 352, 453, 304, 305, 306, 47, 48, 49, 50, 385, 386, 387, 388, 389, 390, 261, 262, 263, 264, 19, 391, 392, 393, 394, 396, 397, 398, 399, 420, 421, 422, 423, 424, 425, 426, 427, 428, 200, 66, 201, 144, 145, 146, 147, 29, 429, 284, 445, 446, 447, 448, 449, 644, 645, 646, 647, 657, 658, 659, 660, 661, 662, 663] (by decide +kernel) (by decide +kernel)
set_option maxRecDepth 20000 in
theorem gL_law_X1_digest : GoodIn wsL_law (wsV RL 130 RX1 yX1_digest wsX1_digest) := goodIn_app (goodIn_of _ (by decide +kernel)) ggL_law_X1_digest
set_option maxRecDepth 20000 in
theorem ggL_law_X2_digest : GoodIn wsL_law wsX2_digest := goodIn_r _ [641, 176, 642, 643, 83, 95, 482, 483, 484, 5, 485, 332, 486, 487, 488, 489, 458, 459, 460, 461, 90, 230, 231, 232, 233, 234, 235, 236, 237, 238, 239, 240, 241, 202, 203, 204, 205, 87, 366, 367, 368, 369, 84, 85, 324, 325, 326, 327, 370, 371, 372, 373, 206, 207, 208, 209, 320, 321, 322, 323, 404, 405, 406, 407, 86, 408, 409, 410, 411, 434, 435, 436, 437, 210, 211, 212, 213, 199, 200, 66, 201, 648, 649, 650, 651, 652, 653, 654, 655, 656] (by decide +kernel) (by decide +kernel)
set_option maxRecDepth 20000 in
theorem gL_law_X2_digest : GoodIn wsL_law (wsV RL 134 RX2 yX2_digest wsX2_digest) := goodIn_app (goodIn_of _ (by decide +kernel)) ggL_law_X2_digest
