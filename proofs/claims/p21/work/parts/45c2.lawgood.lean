set_option maxRecDepth 20000 in
theorem ggL_build_X2_init : GoodIn wsL_build wsX2_init := goodIn_r _ [5, 6, 7, 8, 9, 10, 11, 12, 13, 297, 298, 299, 300] (by decide +kernel) (by decide +kernel)
set_option maxRecDepth 20000 in
theorem gL_build_X2_init_n70 : GoodIn wsL_build (wsX2_init) := ggL_build_X2_init
set_option maxRecDepth 20000 in
theorem ggL_build_L_cell : GoodIn wsL_build wsL_cell := goodIn_r _ [17, 18] (by decide +kernel) (by decide +kernel)
set_option maxRecDepth 20000 in
theorem gL_build_L_cell : GoodIn wsL_build (va_wsS RL 71 yL_cell wsL_cell) := goodIn_app (goodIn_of _ (by decide +kernel)) ggL_build_L_cell
set_option maxRecDepth 20000 in
theorem ggL_build_L_below : GoodIn wsL_build wsL_below := goodIn_r _ [21, 22] (by decide +kernel) (by decide +kernel)
set_option maxRecDepth 20000 in
theorem gL_build_L_below : GoodIn wsL_build (va_wsS RL 18 yL_below wsL_below) := goodIn_app (goodIn_of _ (by decide +kernel)) ggL_build_L_below
set_option maxRecDepth 20000 in
theorem ggL_law_X1_init : GoodIn wsL_law wsX1_init := goodIn_r _ [6, 7, 8, 9, 10, 11, 12, 13, 14, 3, 15, 16, 17, 18, 19, 20, 21, 22, 23, 24, 25, 26, 27, 28, 29, 30, 31, 32, 33, 34, 35, 36, 37, 38, 39, 40, 41, 42, 43, 44, 45, 46, 47, 48, 49, 50, 51, 52, 53, 54, 55, 56, 57, 58, 59, 60, 61, 62, 63, 64, 65, 66, 67, 68, 69, 70, 71, 72, 73, 74, 430, 431, 432, 433, 434, 435, 436, 426, 427, 428, 429] (by decide +kernel) (by decide +kernel)
set_option maxRecDepth 20000 in
theorem gL_law_X1_init : GoodIn wsL_law (wsX1_init) := ggL_law_X1_init
set_option maxRecDepth 20000 in
theorem ggL_law_L_cell : GoodIn wsL_law wsL_cell := goodIn_r _ [91, 92] (by decide +kernel) (by decide +kernel)
set_option maxRecDepth 20000 in
theorem gL_law_L_cell : GoodIn wsL_law (va_wsS RL 71 yL_cell wsL_cell) := goodIn_app (goodIn_of _ (by decide +kernel)) ggL_law_L_cell
set_option maxRecDepth 20000 in
theorem ggL_law_X1_count : GoodIn wsL_law wsX1_count := goodIn_ca (goodIn_r _ [315, 316, 317, 318, 2, 319, 111, 112, 320, 321, 322, 323, 13, 274, 324, 16, 325, 326, 327, 12, 328, 30, 329, 330, 331, 332, 333, 149, 150, 151, 67, 68, 69, 70, 23, 186, 187, 188, 189, 190, 153, 154, 155, 24, 51, 52, 53, 54, 235, 236, 237, 238, 35, 36, 37, 38, 21, 39, 40, 41, 42, 22, 239, 240, 241, 242, 334, 183, 184, 185, 43, 44, 45, 46, 426, 427, 428, 429, 430, 431, 432, 433, 434, 435, 436] (by decide +kernel) (by decide +kernel)) (goodIn_sub (fun _ h => List.mem_append_left _ (List.mem_append_left _ (List.mem_append_right _ h))) (by decide +kernel))
set_option maxRecDepth 20000 in
theorem gL_law_X1_count : GoodIn wsL_law (wsV RL 83 RX1 yX1_count wsX1_count) := goodIn_app (goodIn_of _ (by decide +kernel)) ggL_law_X1_count
set_option maxRecDepth 20000 in
theorem ggL_law_L_below : GoodIn wsL_law wsL_below := goodIn_r _ [95, 96] (by decide +kernel) (by decide +kernel)
set_option maxRecDepth 20000 in
theorem gL_law_L_below : GoodIn wsL_law (va_wsS RL 18 yL_below wsL_below) := goodIn_app (goodIn_of _ (by decide +kernel)) ggL_law_L_below
set_option maxRecDepth 20000 in
theorem ggL_law_X2_cairnAt : GoodIn wsL_law wsX2_cairnAt := goodIn_r _ [261, 86, 437, 438, 439, 440] (by decide +kernel) (by decide +kernel)
set_option maxRecDepth 20000 in
theorem gL_law_X2_cairnAt : GoodIn wsL_law (wsV RL 60 RX2 yX2_cairnAt wsX2_cairnAt) := goodIn_app (goodIn_of _ (by decide +kernel)) ggL_law_X2_cairnAt
set_option maxRecDepth 20000 in
theorem ggL_law_X1_at : GoodIn wsL_law wsX1_at := goodIn_ca (goodIn_r _ [338, 13, 275, 276, 277, 2, 278, 118, 119, 339, 292, 293, 12, 294, 59, 295, 296, 297, 298, 299, 300, 301, 302, 25, 43, 44, 45, 46, 35, 36, 37, 38, 21, 39, 40, 41, 42, 22, 426, 427, 428, 429, 430, 431, 432, 433, 434, 435, 436] (by decide +kernel) (by decide +kernel)) (goodIn_sub (fun _ h => List.mem_append_left _ (List.mem_append_right _ h)) (by decide +kernel))
set_option maxRecDepth 20000 in
theorem gL_law_X1_at : GoodIn wsL_law (wsV RL 87 RX1 yX1_at wsX1_at) := goodIn_app (goodIn_of _ (by decide +kernel)) ggL_law_X1_at
set_option maxRecDepth 20000 in
theorem ggL_law_X1_triangle : GoodIn wsL_law wsX1_triangle := goodIn_ca (goodIn_r _ [343, 111, 112, 13, 324, 316, 317, 318, 2, 319, 344, 345, 346, 347, 348, 349, 350, 12, 351, 352, 353, 62, 354, 299, 300, 301, 302, 25, 35, 36, 37, 38, 21, 39, 40, 41, 42, 22, 43, 44, 45, 46, 355, 426, 427, 428, 429, 430, 431, 432, 433, 434, 435, 436] (by decide +kernel) (by decide +kernel)) (goodIn_sub (fun _ h => List.mem_append_left _ (List.mem_append_left _ (List.mem_append_right _ h))) (by decide +kernel))
set_option maxRecDepth 20000 in
theorem gL_law_X1_triangle : GoodIn wsL_law (wsV RL 90 RX1 yX1_triangle wsX1_triangle) := goodIn_app (goodIn_of _ (by decide +kernel)) ggL_law_X1_triangle
set_option maxRecDepth 20000 in
theorem ggL_law_X1_height : GoodIn wsL_law wsX1_height := goodIn_ca (goodIn_r _ [359, 13, 360, 353, 62, 354, 275, 276, 277, 2, 278, 118, 119, 339, 292, 293, 12, 294, 59, 295, 296, 297, 298, 299, 300, 301, 302, 25, 43, 44, 45, 46, 35, 36, 37, 38, 21, 39, 40, 41, 42, 22, 355, 348, 349, 350, 351, 352, 120, 121, 122, 123, 15, 361, 426, 427, 428, 429, 430, 431, 432, 433, 434, 435, 436] (by decide +kernel) (by decide +kernel)) (goodIn_sub (fun _ h => List.mem_append_left _ (List.mem_append_right _ h)) (by decide +kernel))
set_option maxRecDepth 20000 in
theorem gL_law_X1_height : GoodIn wsL_law (wsV RL 93 RX1 yX1_height wsX1_height) := goodIn_app (goodIn_of _ (by decide +kernel)) ggL_law_X1_height
set_option maxRecDepth 20000 in
theorem ggL_law_X1_would : GoodIn wsL_law wsX1_would := goodIn_ca (goodIn_ca (goodIn_r _ [365, 14, 13, 275, 276, 277, 2, 278, 118, 119, 279, 280, 281, 282, 146, 147, 283, 284, 285, 12, 286, 30, 35, 36, 37, 38, 21, 39, 40, 41, 42, 22, 366, 367, 368, 369, 59, 23, 24, 25, 370, 371, 372, 287, 288, 289, 290, 291, 292, 293, 294, 295, 296, 297, 298, 299, 300, 301, 302, 43, 44, 45, 46, 26, 27, 28, 29, 303, 304, 305, 306, 67, 68, 69, 70, 307, 308, 309, 310, 196, 197, 198, 199, 47, 48, 49, 50, 51, 52, 53, 54, 31, 32, 33, 34, 190, 153, 154, 155, 311, 157, 158, 159, 55, 56, 57, 58, 60, 61, 62, 63, 64, 65, 66, 71, 72, 73, 74, 325, 326, 327, 328, 329, 330, 331, 332, 333, 149, 150, 151, 186, 187, 188, 189, 235, 236, 237, 238, 239, 240, 241, 242, 334, 183, 184, 185, 426, 427, 428, 429, 430, 431, 432, 433, 434, 435, 436] (by decide +kernel) (by decide +kernel)) (goodIn_sub (fun _ h => List.mem_append_left _ (List.mem_append_right _ h)) (by decide +kernel))) (goodIn_sub (fun _ h => List.mem_append_right _ h) (by decide +kernel))
set_option maxRecDepth 20000 in
theorem gL_law_X1_would : GoodIn wsL_law (wsV RL 96 RX1 yX1_would wsX1_would) := goodIn_app (goodIn_of _ (by decide +kernel)) ggL_law_X1_would
set_option maxRecDepth 20000 in
theorem ggL_law_X2_build : GoodIn wsL_law wsX2_build := goodIn_r _ [265, 86, 3, 87, 88, 222, 136, 81, 137, 85, 266, 267, 268, 269, 172, 173, 174, 175, 210, 211, 212, 213, 214, 215, 216, 217, 133, 134, 218, 219, 220, 221, 207, 208, 209, 437, 438, 439, 440] (by decide +kernel) (by decide +kernel)
set_option maxRecDepth 20000 in
theorem gL_law_X2_build : GoodIn wsL_law (wsV RL 63 RX2 yX2_build wsX2_build) := goodIn_app (goodIn_of _ (by decide +kernel)) ggL_law_X2_build
set_option maxRecDepth 20000 in
theorem ggL_law_X1_build : GoodIn wsL_law wsX1_build := goodIn_ca (goodIn_ca (goodIn_r _ [273, 146, 147, 13, 274, 275, 276, 277, 2, 278, 118, 119, 114, 115, 116, 117, 279, 280, 281, 282, 283, 284, 285, 12, 286, 30, 35, 36, 37, 38, 21, 39, 40, 41, 42, 22, 287, 288, 289, 290, 291, 292, 293, 294, 59, 295, 296, 297, 298, 299, 300, 301, 302, 25, 43, 44, 45, 46, 26, 27, 28, 29, 303, 304, 305, 306, 67, 68, 69, 70, 23, 307, 308, 309, 310, 196, 197, 198, 199, 47, 48, 49, 50, 51, 52, 53, 54, 31, 32, 33, 34, 190, 153, 154, 155, 24, 311, 157, 158, 159, 55, 56, 57, 58, 60, 61, 62, 63, 64, 65, 66, 71, 72, 73, 74, 124, 125, 126, 127, 15, 426, 427, 428, 429, 430, 431, 432, 433, 434, 435, 436] (by decide +kernel) (by decide +kernel)) (goodIn_sub (fun _ h => List.mem_append_right _ h) (by decide +kernel))) (goodIn_sub (fun _ h => List.mem_append_left _ (List.mem_append_right _ h)) (by decide +kernel))
set_option maxRecDepth 20000 in
theorem gL_law_X1_build : GoodIn wsL_law (wsV RL 67 RX1 yX1_build wsX1_build) := goodIn_app (goodIn_of _ (by decide +kernel)) ggL_law_X1_build
set_option maxRecDepth 20000 in
theorem ggL_law_X1_edge : GoodIn wsL_law wsX1_edge := goodIn_ca (goodIn_r _ [376, 107, 108, 109, 2, 110, 111, 112, 13, 113, 52, 53, 12, 54, 30, 316, 317, 318, 319, 377, 378, 379, 380, 381, 330, 331, 332, 333, 149, 150, 151, 67, 68, 69, 70, 23, 186, 187, 188, 189, 190, 153, 154, 155, 24, 51, 235, 236, 237, 238, 35, 36, 37, 38, 21, 39, 40, 41, 42, 22, 239, 240, 241, 242, 334, 183, 184, 185, 43, 44, 45, 46, 426, 427, 428, 429, 430, 431, 432, 433, 434, 435, 436] (by decide +kernel) (by decide +kernel)) (goodIn_sub (fun _ h => List.mem_append_left _ (List.mem_append_left _ (List.mem_append_right _ h))) (by decide +kernel))
set_option maxRecDepth 20000 in
theorem gL_law_X1_edge : GoodIn wsL_law (wsV RL 99 RX1 yX1_edge wsX1_edge) := goodIn_app (goodIn_of _ (by decide +kernel)) ggL_law_X1_edge
set_option maxRecDepth 20000 in
theorem ggL_law_X1_told : GoodIn wsL_law wsX1_told := goodIn_ca (goodIn_r _ [385, 107, 108, 109, 2, 110, 111, 112, 13, 113, 52, 53, 12, 54, 30, 316, 317, 318, 319, 386, 387, 388, 389, 390, 36, 37, 38, 21, 391, 40, 41, 42, 22, 120, 121, 122, 123, 15, 392, 393, 394, 395, 333, 149, 150, 151, 67, 68, 69, 70, 23, 396, 397, 398, 399, 426, 427, 428, 429, 430, 431, 432, 433, 434, 435, 436] (by decide +kernel) (by decide +kernel)) (goodIn_sub (fun _ h => List.mem_append_left _ (List.mem_append_left _ (List.mem_append_right _ h))) (by decide +kernel))
set_option maxRecDepth 20000 in
theorem gL_law_X1_told : GoodIn wsL_law (wsV RL 102 RX1 yX1_told wsX1_told) := goodIn_app (goodIn_of _ (by decide +kernel)) ggL_law_X1_told
set_option maxRecDepth 20000 in
theorem ggL_law_X1_settles : GoodIn wsL_law wsX1_settles := goodIn_r _ [403, 14, 13, 366, 367, 368, 12, 369, 30, 59, 21, 22, 23, 24, 25, 370, 371, 372, 227, 228, 229, 230, 231, 232, 233, 234, 235, 236, 237, 238, 67, 68, 69, 70, 186, 187, 188, 189, 35, 36, 37, 38, 39, 40, 41, 42, 239, 240, 241, 242, 190, 153, 154, 155, 51, 52, 53, 54, 243, 193, 194, 195, 196, 197, 198, 199, 43, 44, 45, 46, 47, 48, 49, 50, 31, 32, 33, 34, 55, 56, 57, 58, 60, 61, 62, 63, 64, 65, 66, 71, 72, 73, 74, 426, 427, 428, 429, 430, 431, 432, 433, 434, 435, 436] (by decide +kernel) (by decide +kernel)
set_option maxRecDepth 20000 in
theorem gL_law_X1_settles : GoodIn wsL_law (wsV RL 105 RX1 yX1_settles wsX1_settles) := goodIn_app (goodIn_of _ (by decide +kernel)) ggL_law_X1_settles
set_option maxRecDepth 20000 in
theorem ggL_law_X1_settle : GoodIn wsL_law wsX1_settle := goodIn_r _ [226, 13, 16, 227, 228, 229, 12, 230, 231, 232, 233, 234, 30, 235, 236, 237, 238, 67, 68, 69, 70, 23, 186, 187, 188, 189, 35, 36, 37, 38, 21, 39, 40, 41, 42, 22, 239, 240, 241, 242, 190, 153, 154, 155, 24, 51, 52, 53, 54, 243, 193, 194, 195, 196, 197, 198, 199, 43, 44, 45, 46, 47, 48, 49, 50, 31, 32, 33, 34, 55, 56, 57, 58, 59, 60, 61, 62, 63, 64, 65, 66, 71, 72, 73, 74, 25, 426, 427, 428, 429, 430, 431, 432, 433, 434, 435, 436] (by decide +kernel) (by decide +kernel)
set_option maxRecDepth 20000 in
theorem gL_law_X1_settle : GoodIn wsL_law (wsV RL 55 RX1 yX1_settle wsX1_settle) := goodIn_app (goodIn_of _ (by decide +kernel)) ggL_law_X1_settle
set_option maxRecDepth 20000 in
theorem ggL_law_X2_settle : GoodIn wsL_law wsX2_settle := goodIn_r _ [247, 86, 171, 129, 130, 81, 131, 88, 248, 249, 250, 251, 164, 165, 166, 167, 3, 87, 168, 169, 170, 207, 208, 209, 252, 253, 254, 255, 256, 257, 201, 202, 203, 204, 205, 61, 62, 63, 206, 65, 66, 210, 211, 212, 213, 214, 215, 216, 217, 133, 134, 85, 218, 219, 220, 221, 222, 136, 137, 437, 438, 439, 440] (by decide +kernel) (by decide +kernel)
set_option maxRecDepth 20000 in
theorem gL_law_X2_settle : GoodIn wsL_law (wsV RL 59 RX2 yX2_settle wsX2_settle) := goodIn_app (goodIn_of _ (by decide +kernel)) ggL_law_X2_settle
set_option maxRecDepth 20000 in
theorem ggL_law_X2_flip : GoodIn wsL_law wsX2_flip := goodIn_r _ [203, 204, 205, 61, 62, 63, 206, 65, 66, 164, 165, 166, 81, 167, 3, 87, 168, 169, 170, 207, 208, 209, 210, 211, 212, 213, 214, 215, 216, 217, 133, 134, 85, 218, 219, 220, 221, 222, 136, 137, 437, 438, 439, 440] (by decide +kernel) (by decide +kernel)
set_option maxRecDepth 20000 in
theorem gL_law_X2_flip : GoodIn wsL_law (wsV RL 54 RX2 yX2_flip wsX2_flip) := goodIn_app (goodIn_of _ (by decide +kernel)) ggL_law_X2_flip
set_option maxRecDepth 20000 in
theorem ggL_law_X1_flip : GoodIn wsL_law wsX1_flip := goodIn_ca (goodIn_ca (goodIn_r _ [179, 146, 147, 13, 16, 180, 61, 62, 63, 181, 65, 66, 107, 108, 109, 2, 110, 111, 112, 113, 52, 53, 12, 54, 30, 142, 143, 144, 145, 148, 149, 150, 151, 67, 68, 69, 70, 23, 182, 183, 184, 185, 186, 187, 188, 189, 190, 153, 154, 155, 24, 51, 35, 36, 37, 38, 21, 39, 40, 41, 42, 22, 43, 44, 45, 46, 191, 192, 193, 194, 195, 196, 197, 198, 199, 47, 48, 49, 50, 31, 32, 33, 34, 55, 56, 57, 58, 59, 60, 64, 71, 72, 73, 74, 25, 426, 427, 428, 429, 430, 431, 432, 433, 434, 435, 436] (by decide +kernel) (by decide +kernel)) (goodIn_sub (fun _ h => List.mem_append_right _ h) (by decide +kernel))) (goodIn_sub (fun _ h => List.mem_append_left _ (List.mem_append_left _ (List.mem_append_right _ h))) (by decide +kernel))
set_option maxRecDepth 20000 in
theorem gL_law_X1_flip : GoodIn wsL_law (wsV RL 51 RX1 yX1_flip wsX1_flip) := goodIn_app (goodIn_of _ (by decide +kernel)) ggL_law_X1_flip
