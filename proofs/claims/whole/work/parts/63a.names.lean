set_option maxRecDepth 20000 in
theorem ggL_law_X4_init : GoodIn wsL_law wsX4_init := goodIn_r _ [9, 10, 11, 12, 13, 14, 15, 16, 17, 18, 19, 20, 21, 22, 23, 24, 25, 26, 27, 28, 29, 30, 31, 32, 33, 34, 35, 36, 37, 38, 39, 40, 41, 42, 43, 44, 45, 46, 47, 48, 49, 50, 51, 52, 53, 54, 55, 56, 57, 58, 59, 60, 61, 62, 63, 64, 728, 729, 730, 731, 732, 733, 734, 735, 736, 737, 709, 710, 711, 712, 713, 714, 715, 716, 717, 738, 739, 740, 741, 742, 743, 744, 745, 746, 747, 748, 749, 750, 751, 752, 753] (by decide +kernel) (by decide +kernel)
set_option maxRecDepth 20000 in
theorem gL_law_X4_init : GoodIn wsL_law (wsX4_init) := ggL_law_X4_init
set_option maxRecDepth 20000 in
theorem ggL_law_X5_init : GoodIn wsL_law wsX5_init := goodIn_r _ [67, 68, 11, 12, 38, 69, 70, 71, 20, 72, 73, 74, 718, 719, 720, 721, 722, 723, 724, 725, 726, 727] (by decide +kernel) (by decide +kernel)
set_option maxRecDepth 20000 in
theorem gL_law_X5_init : GoodIn wsL_law (wsX5_init) := ggL_law_X5_init
set_option maxRecDepth 20000 in
theorem ggL_law_L_cover : GoodIn wsL_law wsL_cover := goodIn_ca (goodIn_ca (goodIn_r _ [78, 79, 80, 81, 82, 83, 2, 84, 85, 86, 87, 88, 16, 89, 90, 91, 92, 93, 94, 95, 96, 97, 18, 98, 99, 100, 101, 102, 103, 104, 105, 106, 107, 15, 108, 39, 40, 41, 42, 109, 110, 111, 112, 43, 44, 45, 113, 114, 115, 116, 117, 118, 119, 709, 710, 711, 712, 713, 714, 715, 716, 717, 728, 729, 730, 731, 732, 733, 734, 735, 736, 737] (by decide +kernel) (by decide +kernel)) (goodIn_sub (fun _ h => List.mem_append_left _ (List.mem_append_left _ (List.mem_append_right _ h))) (by decide +kernel))) (goodIn_sub (fun _ h => List.mem_append_left _ (List.mem_append_right _ h)) (by decide +kernel))
set_option maxRecDepth 20000 in
theorem gL_law_L_cover : GoodIn wsL_law (va_wsS RL 67 yL_cover wsL_cover) := goodIn_app (goodIn_of _ (by decide +kernel)) ggL_law_L_cover
set_option maxRecDepth 20000 in
theorem ggL_law_X5_cover : GoodIn wsL_law wsX5_cover := goodIn_r _ [123, 124, 125, 5, 126, 127, 128, 129, 130, 131, 132, 133, 134, 135, 136, 137, 138, 69, 139, 140, 141, 142, 143, 73, 144, 145, 146, 147, 718, 719, 720, 721, 722, 723, 724, 725, 726, 727] (by decide +kernel) (by decide +kernel)
set_option maxRecDepth 20000 in
theorem gL_law_X5_cover : GoodIn wsL_law (wsV RL 72 RX5 yX5_cover wsX5_cover) := goodIn_app (goodIn_of _ (by decide +kernel)) ggL_law_X5_cover
set_option maxRecDepth 20000 in
theorem ggL_law_X5_thrown : GoodIn wsL_law wsX5_thrown := goodIn_r _ [151, 134, 718, 719, 720, 721, 722, 723, 724, 725, 726, 727] (by decide +kernel) (by decide +kernel)
set_option maxRecDepth 20000 in
theorem gL_law_X5_thrown : GoodIn wsL_law (wsV RL 73 RX5 yX5_thrown wsX5_thrown) := goodIn_app (goodIn_of _ (by decide +kernel)) ggL_law_X5_thrown
set_option maxRecDepth 20000 in
theorem ggL_law_L_join : GoodIn wsL_law wsL_join := goodIn_ca (goodIn_ca (goodIn_r _ [154, 79, 80, 155, 156, 157, 2, 158, 85, 86, 87, 88, 16, 159, 90, 91, 92, 93, 94, 95, 96, 97, 18, 98, 99, 100, 101, 102, 103, 104, 105, 106, 107, 15, 108, 39, 40, 41, 42, 109, 110, 111, 112, 43, 44, 45, 113, 114, 115, 116, 117, 118, 119, 160, 161, 162, 709, 710, 711, 712, 713, 714, 715, 716, 717, 728, 729, 730, 731, 732, 733, 734, 735, 736, 737] (by decide +kernel) (by decide +kernel)) (goodIn_sub (fun _ h => List.mem_append_left _ (List.mem_append_left _ (List.mem_append_right _ h))) (by decide +kernel))) (goodIn_sub (fun _ h => List.mem_append_left _ (List.mem_append_right _ h)) (by decide +kernel))
set_option maxRecDepth 20000 in
theorem gL_law_L_join : GoodIn wsL_law (va_wsS RL 76 yL_join wsL_join) := goodIn_app (goodIn_of _ (by decide +kernel)) ggL_law_L_join
set_option maxRecDepth 20000 in
theorem ggL_law_X5_join : GoodIn wsL_law wsX5_join := goodIn_r _ [166, 69, 124, 125, 5, 126, 127, 128, 129, 130, 131, 132, 133, 134, 135, 136, 137, 138, 139, 140, 141, 142, 143, 73, 144, 145, 146, 147, 718, 719, 720, 721, 722, 723, 724, 725, 726, 727] (by decide +kernel) (by decide +kernel)
set_option maxRecDepth 20000 in
theorem gL_law_X5_join : GoodIn wsL_law (wsV RL 78 RX5 yX5_join wsX5_join) := goodIn_app (goodIn_of _ (by decide +kernel)) ggL_law_X5_join
set_option maxRecDepth 20000 in
theorem ggL_law_L_mark : GoodIn wsL_law wsL_mark := goodIn_ca (goodIn_ca (goodIn_r _ [169, 79, 80, 170, 171, 172, 2, 173, 85, 86, 87, 88, 16, 34, 90, 91, 92, 93, 94, 95, 96, 97, 18, 98, 99, 100, 101, 102, 103, 104, 105, 106, 107, 15, 108, 39, 40, 41, 42, 109, 110, 111, 112, 43, 44, 45, 113, 114, 115, 116, 117, 118, 119, 709, 710, 711, 712, 713, 714, 715, 716, 717, 728, 729, 730, 731, 732, 733, 734, 735, 736, 737] (by decide +kernel) (by decide +kernel)) (goodIn_sub (fun _ h => List.mem_append_left _ (List.mem_append_left _ (List.mem_append_right _ h))) (by decide +kernel))) (goodIn_sub (fun _ h => List.mem_append_left _ (List.mem_append_right _ h)) (by decide +kernel))
set_option maxRecDepth 20000 in
theorem gL_law_L_mark : GoodIn wsL_law (va_wsS RL 79 yL_mark wsL_mark) := goodIn_app (goodIn_of _ (by decide +kernel)) ggL_law_L_mark
set_option maxRecDepth 20000 in
theorem ggL_law_X5_mark : GoodIn wsL_law wsX5_mark := goodIn_r _ [177, 124, 125, 5, 126, 127, 128, 129, 130, 131, 132, 133, 134, 135, 136, 137, 138, 69, 139, 140, 141, 142, 143, 73, 144, 145, 146, 147, 718, 719, 720, 721, 722, 723, 724, 725, 726, 727] (by decide +kernel) (by decide +kernel)
set_option maxRecDepth 20000 in
theorem gL_law_X5_mark : GoodIn wsL_law (wsV RL 81 RX5 yX5_mark wsX5_mark) := goodIn_app (goodIn_of _ (by decide +kernel)) ggL_law_X5_mark
set_option maxRecDepth 20000 in
theorem ggL_law_L_bar : GoodIn wsL_law wsL_bar := goodIn_ca (goodIn_ca (goodIn_r _ [180, 79, 80, 181, 182, 183, 2, 184, 85, 86, 87, 88, 16, 185, 90, 91, 92, 93, 94, 95, 96, 97, 18, 98, 99, 100, 101, 102, 103, 104, 105, 106, 107, 15, 108, 39, 40, 41, 42, 109, 110, 111, 112, 43, 44, 45, 113, 114, 115, 116, 117, 118, 119, 160, 161, 162, 709, 710, 711, 712, 713, 714, 715, 716, 717, 728, 729, 730, 731, 732, 733, 734, 735, 736, 737] (by decide +kernel) (by decide +kernel)) (goodIn_sub (fun _ h => List.mem_append_left _ (List.mem_append_left _ (List.mem_append_right _ h))) (by decide +kernel))) (goodIn_sub (fun _ h => List.mem_append_left _ (List.mem_append_right _ h)) (by decide +kernel))
set_option maxRecDepth 20000 in
theorem gL_law_L_bar : GoodIn wsL_law (va_wsS RL 82 yL_bar wsL_bar) := goodIn_app (goodIn_of _ (by decide +kernel)) ggL_law_L_bar
set_option maxRecDepth 20000 in
theorem ggL_law_X5_bar : GoodIn wsL_law wsX5_bar := goodIn_r _ [189, 69, 124, 125, 5, 126, 127, 128, 129, 130, 131, 132, 133, 134, 135, 136, 137, 138, 139, 140, 141, 142, 143, 73, 144, 145, 146, 147, 718, 719, 720, 721, 722, 723, 724, 725, 726, 727] (by decide +kernel) (by decide +kernel)
set_option maxRecDepth 20000 in
theorem gL_law_X5_bar : GoodIn wsL_law (wsV RL 84 RX5 yX5_bar wsX5_bar) := goodIn_app (goodIn_of _ (by decide +kernel)) ggL_law_X5_bar
set_option maxRecDepth 20000 in
theorem ggL_law_X4_step : GoodIn wsL_law wsX4_step := goodIn_r _ [193, 29, 16, 93, 94, 95, 2, 96, 97, 18, 98, 99, 100, 101, 102, 103, 104, 105, 106, 107, 15, 108, 39, 40, 41, 42, 109, 110, 111, 112, 43, 44, 45, 113, 114, 115, 194, 195, 196, 28, 197, 58, 198, 199, 200, 201, 202, 203, 204, 205, 206, 207, 208, 209, 55, 91, 92, 161, 162, 210, 211, 212, 213, 214, 56, 215, 216, 217, 218, 219, 220, 221, 222, 223, 224, 225, 226, 227, 228, 229, 230, 231, 232, 233, 234, 235, 236, 237, 238, 709, 710, 711, 712, 713, 714, 715, 716, 717, 728, 729, 730, 731, 732, 733, 734, 735, 736, 737, 745, 746, 747, 748, 749, 750] (by decide +kernel) (by decide +kernel)
set_option maxRecDepth 20000 in
theorem gL_law_X4_step : GoodIn wsL_law (wsV RL 85 RX4 yX4_step wsX4_step) := goodIn_app (goodIn_of _ (by decide +kernel)) ggL_law_X4_step
set_option maxRecDepth 20000 in
theorem ggL_law_X5_step : GoodIn wsL_law wsX5_step := goodIn_r _ [242, 134, 139, 140, 141, 5, 142, 143, 73, 69, 243, 244, 245, 246, 247, 248, 249, 250, 251, 252, 253, 254, 255, 256, 257, 258, 259, 260, 261, 262, 263, 264, 265, 266, 267, 268, 718, 719, 720, 721, 722, 723, 724, 725, 726, 727] (by decide +kernel) (by decide +kernel)
set_option maxRecDepth 20000 in
theorem gL_law_X5_step : GoodIn wsL_law (wsV RL 88 RX5 yX5_step wsX5_step) := goodIn_app (goodIn_of _ (by decide +kernel)) ggL_law_X5_step
set_option maxRecDepth 20000 in
theorem ggL_law_X4_split : GoodIn wsL_law wsX4_split := goodIn_r _ [272, 29, 16, 93, 94, 95, 2, 96, 97, 18, 98, 99, 100, 101, 102, 103, 104, 105, 106, 107, 15, 108, 39, 40, 41, 42, 109, 110, 111, 112, 43, 44, 45, 113, 114, 115, 194, 195, 196, 28, 197, 58, 198, 199, 200, 201, 202, 203, 204, 205, 206, 207, 208, 209, 55, 91, 92, 161, 162, 210, 211, 212, 213, 214, 56, 215, 216, 217, 218, 273, 274, 275, 276, 219, 220, 221, 222, 223, 224, 225, 226, 227, 228, 229, 230, 231, 232, 233, 234, 235, 236, 237, 238, 709, 710, 711, 712, 713, 714, 715, 716, 717, 728, 729, 730, 731, 732, 733, 734, 735, 736, 737, 745, 746, 747, 748, 749, 750] (by decide +kernel) (by decide +kernel)
set_option maxRecDepth 20000 in
theorem gL_law_X4_split : GoodIn wsL_law (wsV RL 89 RX4 yX4_split wsX4_split) := goodIn_app (goodIn_of _ (by decide +kernel)) ggL_law_X4_split
set_option maxRecDepth 20000 in
theorem ggL_law_X5_split : GoodIn wsL_law wsX5_split := goodIn_r _ [280, 134, 139, 140, 141, 5, 142, 143, 73, 69, 281, 282, 283, 284, 243, 244, 245, 246, 247, 248, 249, 250, 251, 252, 253, 254, 255, 256, 257, 258, 259, 260, 261, 262, 263, 264, 265, 266, 267, 268, 718, 719, 720, 721, 722, 723, 724, 725, 726, 727] (by decide +kernel) (by decide +kernel)
set_option maxRecDepth 20000 in
theorem gL_law_X5_split : GoodIn wsL_law (wsV RL 92 RX5 yX5_split wsX5_split) := goodIn_app (goodIn_of _ (by decide +kernel)) ggL_law_X5_split
set_option maxRecDepth 20000 in
theorem ggL_law_X4_begin : GoodIn wsL_law wsX4_begin := goodIn_r _ [288, 16, 223, 93, 94, 95, 2, 96, 97, 18, 98, 99, 100, 101, 102, 103, 104, 105, 106, 107, 15, 108, 39, 40, 41, 42, 109, 110, 111, 112, 43, 44, 45, 113, 114, 115, 116, 117, 118, 119, 709, 710, 711, 712, 713, 714, 715, 716, 717, 728, 729, 730, 731, 732, 733, 734, 735, 736, 737] (by decide +kernel) (by decide +kernel)
set_option maxRecDepth 20000 in
theorem gL_law_X4_begin : GoodIn wsL_law (wsV RL 93 RX4 yX4_begin wsX4_begin) := goodIn_app (goodIn_of _ (by decide +kernel)) ggL_law_X4_begin
set_option maxRecDepth 20000 in
theorem ggL_law_X5_begin : GoodIn wsL_law wsX5_begin := goodIn_r _ [292, 134, 69, 139, 140, 141, 5, 142, 143, 73, 144, 145, 146, 147, 718, 719, 720, 721, 722, 723, 724, 725, 726, 727] (by decide +kernel) (by decide +kernel)
set_option maxRecDepth 20000 in
theorem gL_law_X5_begin : GoodIn wsL_law (wsV RL 96 RX5 yX5_begin wsX5_begin) := goodIn_app (goodIn_of _ (by decide +kernel)) ggL_law_X5_begin
set_option maxRecDepth 20000 in
theorem ggL_law_L_append : GoodIn wsL_law wsL_append := goodIn_ca (goodIn_ca (goodIn_r _ [295, 80, 296, 297, 298, 299, 2, 300, 87, 88, 301, 302, 25, 303, 304, 709, 710, 711, 712, 713, 714, 715, 716, 717, 738, 739, 740, 741, 742, 743, 744] (by decide +kernel) (by decide +kernel)) (goodIn_sub (fun _ h => List.mem_append_left _ (List.mem_append_right _ h)) (by decide +kernel))) (goodIn_sub (fun _ h => List.mem_append_right _ h) (by decide +kernel))
set_option maxRecDepth 20000 in
theorem gL_law_L_append : GoodIn wsL_law (va_wsS RL 97 yL_append wsL_append) := goodIn_app (goodIn_of _ (by decide +kernel)) ggL_law_L_append
set_option maxRecDepth 20000 in
theorem ggL_law_X5_append : GoodIn wsL_law wsX5_append := goodIn_r _ [308, 309, 74, 127, 128, 5, 129, 130, 131, 132, 133, 134, 718, 719, 720, 721, 722, 723, 724, 725, 726, 727] (by decide +kernel) (by decide +kernel)
set_option maxRecDepth 20000 in
theorem gL_law_X5_append : GoodIn wsL_law (wsV RL 100 RX5 yX5_append wsX5_append) := goodIn_app (goodIn_of _ (by decide +kernel)) ggL_law_X5_append
set_option maxRecDepth 20000 in
theorem ggL_law_X4_clearBuffer : GoodIn wsL_law wsX4_clearBuffer := goodIn_r _ [313, 25, 303, 709, 710, 711, 712, 713, 714, 715, 716, 717, 738, 739, 740, 741, 742, 743, 744] (by decide +kernel) (by decide +kernel)
set_option maxRecDepth 20000 in
theorem gL_law_X4_clearBuffer : GoodIn wsL_law (wsV RL 101 RX4 yX4_clearBuffer wsX4_clearBuffer) := goodIn_app (goodIn_of _ (by decide +kernel)) ggL_law_X4_clearBuffer
set_option maxRecDepth 20000 in
theorem ggL_law_X5_clearBuffer : GoodIn wsL_law wsX5_clearBuffer := goodIn_r _ [317, 134, 309, 718, 719, 720, 721, 722, 723, 724, 725, 726, 727] (by decide +kernel) (by decide +kernel)
set_option maxRecDepth 20000 in
theorem gL_law_X5_clearBuffer : GoodIn wsL_law (wsV RL 104 RX5 yX5_clearBuffer wsX5_clearBuffer) := goodIn_app (goodIn_of _ (by decide +kernel)) ggL_law_X5_clearBuffer
set_option maxRecDepth 20000 in
theorem ggL_law_X4_firstError : GoodIn wsL_law wsX4_firstError := goodIn_r _ [321, 25, 322, 323, 324, 24, 325, 51, 326, 327, 49, 328, 329, 330, 15, 331, 39, 40, 41, 42, 332, 333, 334, 335, 336, 337, 338, 339, 340, 341, 342, 343, 91, 2, 92, 344, 345, 346, 347, 348, 349, 350, 351, 352, 353, 354, 355, 356, 357, 358, 359, 360, 361, 362, 709, 710, 711, 712, 713, 714, 715, 716, 717, 738, 739, 740, 741, 742, 743, 744, 728, 729, 730, 731, 732, 733, 734, 735, 736, 737] (by decide +kernel) (by decide +kernel)
set_option maxRecDepth 20000 in
theorem gL_law_X4_firstError : GoodIn wsL_law (wsV RL 105 RX4 yX4_firstError wsX4_firstError) := goodIn_app (goodIn_of _ (by decide +kernel)) ggL_law_X4_firstError
set_option maxRecDepth 20000 in
theorem ggL_law_X5_firstError : GoodIn wsL_law wsX5_firstError := goodIn_r _ [366, 134, 309, 367, 368, 369, 5, 370, 74, 371, 372, 373, 374, 375, 376, 377, 378, 379, 380, 381, 382, 124, 125, 126, 127, 128, 129, 383, 384, 385, 386, 718, 719, 720, 721, 722, 723, 724, 725, 726, 727] (by decide +kernel) (by decide +kernel)
set_option maxRecDepth 20000 in
theorem gL_law_X5_firstError : GoodIn wsL_law (wsV RL 108 RX5 yX5_firstError wsX5_firstError) := goodIn_app (goodIn_of _ (by decide +kernel)) ggL_law_X5_firstError
set_option maxRecDepth 20000 in
theorem ggL_law_L_load : GoodIn wsL_law wsL_load := goodIn_ca (goodIn_r _ [389, 80, 390, 391, 392, 2, 393, 87, 88, 25, 303, 16, 394, 322, 323, 324, 24, 325, 51, 326, 327, 49, 328, 329, 330, 15, 331, 39, 40, 41, 42, 332, 333, 334, 335, 336, 337, 338, 339, 340, 341, 342, 343, 91, 92, 344, 345, 346, 347, 348, 349, 350, 351, 352, 353, 354, 355, 356, 357, 358, 359, 360, 361, 362, 395, 396, 397, 398, 93, 94, 95, 96, 97, 18, 98, 99, 100, 101, 102, 103, 104, 105, 106, 107, 108, 109, 110, 111, 112, 43, 44, 45, 113, 114, 115, 116, 117, 118, 119, 399, 400, 401, 402, 403, 404, 405, 406, 407, 408, 409, 709, 710, 711, 712, 713, 714, 715, 716, 717, 738, 739, 740, 741, 742, 743, 744, 728, 729, 730, 731, 732, 733, 734, 735, 736, 737] (by decide +kernel) (by decide +kernel)) (goodIn_sub (fun _ h => List.mem_append_left _ (List.mem_append_right _ h)) (by decide +kernel))
set_option maxRecDepth 20000 in
theorem gL_law_L_load : GoodIn wsL_law (va_wsS RL 109 yL_load wsL_load) := goodIn_app (goodIn_of _ (by decide +kernel)) ggL_law_L_load
set_option maxRecDepth 20000 in
theorem ggL_law_X5_load : GoodIn wsL_law wsX5_load := goodIn_r _ [413, 69, 309, 367, 368, 369, 5, 370, 74, 371, 372, 373, 374, 375, 376, 377, 378, 379, 380, 381, 382, 124, 125, 126, 127, 128, 129, 383, 384, 385, 386, 130, 131, 132, 133, 134, 139, 140, 141, 142, 143, 73, 414, 415, 416, 417, 144, 145, 146, 147, 418, 419, 420, 421, 422, 423, 424, 718, 719, 720, 721, 722, 723, 724, 725, 726, 727] (by decide +kernel) (by decide +kernel)
set_option maxRecDepth 20000 in
theorem gL_law_X5_load : GoodIn wsL_law (wsV RL 112 RX5 yX5_load wsX5_load) := goodIn_app (goodIn_of _ (by decide +kernel)) ggL_law_X5_load
set_option maxRecDepth 20000 in
theorem ggL_law_L_keep : GoodIn wsL_law wsL_keep := goodIn_ca (goodIn_r _ [427, 80, 428, 429, 430, 2, 431, 87, 88, 16, 19, 21, 432, 433, 434, 102, 103, 104, 105, 106, 107, 15, 108, 39, 40, 41, 42, 109, 110, 111, 112, 43, 44, 45, 113, 114, 115, 399, 400, 401, 402, 403, 404, 405, 406, 407, 408, 409, 709, 710, 711, 712, 713, 714, 715, 716, 717, 728, 729, 730, 731, 732, 733, 734, 735, 736, 737] (by decide +kernel) (by decide +kernel)) (goodIn_sub (fun _ h => List.mem_append_left _ (List.mem_append_right _ h)) (by decide +kernel))
set_option maxRecDepth 20000 in
theorem gL_law_L_keep : GoodIn wsL_law (va_wsS RL 113 yL_keep wsL_keep) := goodIn_app (goodIn_of _ (by decide +kernel)) ggL_law_L_keep
set_option maxRecDepth 20000 in
theorem ggL_law_X5_keep : GoodIn wsL_law wsX5_keep := goodIn_r _ [438, 71, 69, 72, 127, 128, 5, 129, 130, 131, 132, 133, 134, 418, 419, 420, 421, 422, 423, 424, 718, 719, 720, 721, 722, 723, 724, 725, 726, 727] (by decide +kernel) (by decide +kernel)
set_option maxRecDepth 20000 in
theorem gL_law_X5_keep : GoodIn wsL_law (wsV RL 115 RX5 yX5_keep wsX5_keep) := goodIn_app (goodIn_of _ (by decide +kernel)) ggL_law_X5_keep
set_option maxRecDepth 20000 in
theorem ggL_law_L_goBack : GoodIn wsL_law wsL_goBack := goodIn_ca (goodIn_ca (goodIn_r _ [441, 80, 296, 442, 443, 444, 2, 445, 87, 88, 301, 302, 21, 19, 16, 432, 433, 434, 93, 94, 95, 96, 97, 18, 98, 99, 100, 101, 102, 103, 104, 105, 106, 107, 15, 108, 39, 40, 41, 42, 109, 110, 111, 112, 43, 44, 45, 113, 114, 115, 399, 400, 401, 402, 403, 404, 405, 406, 407, 408, 409, 709, 710, 711, 712, 713, 714, 715, 716, 717, 728, 729, 730, 731, 732, 733, 734, 735, 736, 737] (by decide +kernel) (by decide +kernel)) (goodIn_sub (fun _ h => List.mem_append_left _ (List.mem_append_right _ h)) (by decide +kernel))) (goodIn_sub (fun _ h => List.mem_append_right _ h) (by decide +kernel))
set_option maxRecDepth 20000 in
theorem gL_law_L_goBack : GoodIn wsL_law (va_wsS RL 116 yL_goBack wsL_goBack) := goodIn_app (goodIn_of _ (by decide +kernel)) ggL_law_L_goBack
set_option maxRecDepth 20000 in
theorem ggL_law_X5_goBack : GoodIn wsL_law wsX5_goBack := goodIn_r _ [449, 72, 69, 71, 127, 128, 5, 129, 130, 131, 132, 133, 134, 139, 140, 141, 142, 143, 73, 418, 419, 420, 421, 422, 423, 424, 718, 719, 720, 721, 722, 723, 724, 725, 726, 727] (by decide +kernel) (by decide +kernel)
set_option maxRecDepth 20000 in
theorem gL_law_X5_goBack : GoodIn wsL_law (wsV RL 118 RX5 yX5_goBack wsX5_goBack) := goodIn_app (goodIn_of _ (by decide +kernel)) ggL_law_X5_goBack
set_option maxRecDepth 20000 in
theorem ggL_law_L_undo : GoodIn wsL_law wsL_undo := goodIn_ca (goodIn_r _ [452, 296, 453, 454, 455, 2, 456, 301, 302, 97, 18, 16, 102, 103, 104, 105, 106, 107, 15, 108, 39, 40, 41, 42, 109, 110, 111, 112, 43, 44, 45, 113, 114, 115, 709, 710, 711, 712, 713, 714, 715, 716, 717, 728, 729, 730, 731, 732, 733, 734, 735, 736, 737] (by decide +kernel) (by decide +kernel)) (goodIn_sub (fun _ h => List.mem_append_right _ h) (by decide +kernel))
set_option maxRecDepth 20000 in
theorem gL_law_L_undo : GoodIn wsL_law (va_wsS RL 119 yL_undo wsL_undo) := goodIn_app (goodIn_of _ (by decide +kernel)) ggL_law_L_undo
set_option maxRecDepth 20000 in
theorem ggL_law_X5_undo : GoodIn wsL_law wsX5_undo := goodIn_r _ [460, 143, 69, 73, 130, 131, 132, 5, 133, 134, 718, 719, 720, 721, 722, 723, 724, 725, 726, 727] (by decide +kernel) (by decide +kernel)
set_option maxRecDepth 20000 in
theorem gL_law_X5_undo : GoodIn wsL_law (wsV RL 121 RX5 yX5_undo wsX5_undo) := goodIn_app (goodIn_of _ (by decide +kernel)) ggL_law_X5_undo
set_option maxRecDepth 20000 in
theorem ggL_law_L_pieceOf : GoodIn wsL_law wsL_pieceOf := goodIn_ca (goodIn_ca (goodIn_r _ [463, 79, 80, 464, 465, 466, 2, 467, 85, 86, 87, 88, 16, 89, 468, 34, 159, 33, 469, 29, 470, 471, 185, 90, 91, 92, 472, 473, 474, 15, 475, 41, 161, 162, 476, 404, 405, 406, 407, 408, 409, 477, 478, 479, 32, 480, 63, 481, 194, 195, 196, 28, 197, 58, 198, 199, 200, 201, 202, 203, 204, 205, 206, 106, 107, 108, 39, 40, 42, 207, 208, 209, 55, 210, 211, 212, 213, 214, 56, 215, 216, 217, 218, 482, 483, 484, 160, 709, 710, 711, 712, 713, 714, 715, 716, 717, 728, 729, 730, 731, 732, 733, 734, 735, 736, 737, 751, 752, 753, 745, 746, 747, 748, 749, 750] (by decide +kernel) (by decide +kernel)) (goodIn_sub (fun _ h => List.mem_append_left _ (List.mem_append_left _ (List.mem_append_right _ h))) (by decide +kernel))) (goodIn_sub (fun _ h => List.mem_append_left _ (List.mem_append_right _ h)) (by decide +kernel))
set_option maxRecDepth 20000 in
theorem gL_law_L_pieceOf : GoodIn wsL_law (va_wsS RL 122 yL_pieceOf wsL_pieceOf) := goodIn_app (goodIn_of _ (by decide +kernel)) ggL_law_L_pieceOf
set_option maxRecDepth 20000 in
theorem ggL_law_X5_pieceOf : GoodIn wsL_law wsX5_pieceOf := goodIn_r _ [488, 124, 125, 5, 126, 127, 128, 129, 130, 131, 132, 133, 134, 489, 490, 491, 492, 69, 493, 494, 495, 496, 422, 423, 424, 497, 498, 499, 500, 501, 502, 503, 504, 251, 252, 253, 254, 255, 256, 257, 258, 718, 719, 720, 721, 722, 723, 724, 725, 726, 727] (by decide +kernel) (by decide +kernel)
set_option maxRecDepth 20000 in
theorem gL_law_X5_pieceOf : GoodIn wsL_law (wsV RL 124 RX5 yX5_pieceOf wsX5_pieceOf) := goodIn_app (goodIn_of _ (by decide +kernel)) ggL_law_X5_pieceOf
set_option maxRecDepth 20000 in
theorem ggL_law_L_isJoined : GoodIn wsL_law wsL_isJoined := goodIn_ca (goodIn_r _ [507, 79, 508, 509, 510, 2, 511, 85, 86, 16, 159, 90, 91, 92, 160, 161, 162, 709, 710, 711, 712, 713, 714, 715, 716, 717, 728, 729, 730, 731, 732, 733, 734, 735, 736, 737] (by decide +kernel) (by decide +kernel)) (goodIn_sub (fun _ h => List.mem_append_left _ (List.mem_append_left _ (List.mem_append_right _ h))) (by decide +kernel))
set_option maxRecDepth 20000 in
theorem gL_law_L_isJoined : GoodIn wsL_law (va_wsS RL 125 yL_isJoined wsL_isJoined) := goodIn_app (goodIn_of _ (by decide +kernel)) ggL_law_L_isJoined
set_option maxRecDepth 20000 in
theorem ggL_law_X5_isJoined : GoodIn wsL_law wsX5_isJoined := goodIn_r _ [515, 69, 124, 125, 5, 126, 127, 128, 129, 130, 131, 132, 133, 134, 718, 719, 720, 721, 722, 723, 724, 725, 726, 727] (by decide +kernel) (by decide +kernel)
set_option maxRecDepth 20000 in
theorem gL_law_X5_isJoined : GoodIn wsL_law (wsV RL 127 RX5 yX5_isJoined wsX5_isJoined) := goodIn_app (goodIn_of _ (by decide +kernel)) ggL_law_X5_isJoined
set_option maxRecDepth 20000 in
theorem ggL_law_L_noted : GoodIn wsL_law wsL_noted := goodIn_ca (goodIn_r _ [518, 80, 519, 520, 521, 2, 522, 87, 88, 16, 223, 523, 524, 476, 404, 405, 406, 407, 408, 409, 709, 710, 711, 712, 713, 714, 715, 716, 717, 728, 729, 730, 731, 732, 733, 734, 735, 736, 737] (by decide +kernel) (by decide +kernel)) (goodIn_sub (fun _ h => List.mem_append_left _ (List.mem_append_right _ h)) (by decide +kernel))
set_option maxRecDepth 20000 in
theorem gL_law_L_noted : GoodIn wsL_law (va_wsS RL 128 yL_noted wsL_noted) := goodIn_app (goodIn_of _ (by decide +kernel)) ggL_law_L_noted
set_option maxRecDepth 20000 in
theorem ggL_law_X5_noted : GoodIn wsL_law wsX5_noted := goodIn_r _ [528, 127, 128, 5, 129, 130, 131, 132, 133, 134, 529, 530, 531, 532, 69, 422, 423, 424, 718, 719, 720, 721, 722, 723, 724, 725, 726, 727] (by decide +kernel) (by decide +kernel)
set_option maxRecDepth 20000 in
theorem gL_law_X5_noted : GoodIn wsL_law (wsV RL 130 RX5 yX5_noted wsX5_noted) := goodIn_app (goodIn_of _ (by decide +kernel)) ggL_law_X5_noted
set_option maxRecDepth 20000 in
theorem ggL_law_L_count : GoodIn wsL_law wsL_count := goodIn_ca (goodIn_r _ [535, 80, 536, 537, 538, 2, 539, 87, 88, 16, 89, 468, 223, 29, 471, 229, 33, 540, 224, 97, 399, 400, 401, 15, 402, 41, 403, 404, 405, 406, 407, 408, 409, 541, 542, 543, 544, 545, 546, 28, 547, 59, 199, 204, 161, 162, 194, 195, 196, 197, 58, 198, 200, 201, 202, 203, 205, 206, 106, 107, 108, 39, 40, 42, 207, 208, 209, 55, 91, 92, 210, 211, 212, 213, 214, 56, 215, 216, 217, 218, 477, 478, 479, 32, 480, 63, 481, 548, 549, 550, 551, 64, 552, 553, 554, 555, 556, 557, 558, 559, 560, 561, 562, 563, 564, 709, 710, 711, 712, 713, 714, 715, 716, 717, 728, 729, 730, 731, 732, 733, 734, 735, 736, 737, 745, 746, 747, 748, 749, 750, 751, 752, 753] (by decide +kernel) (by decide +kernel)) (goodIn_sub (fun _ h => List.mem_append_left _ (List.mem_append_right _ h)) (by decide +kernel))
set_option maxRecDepth 20000 in
theorem gL_law_L_count : GoodIn wsL_law (va_wsS RL 131 yL_count wsL_count) := goodIn_app (goodIn_of _ (by decide +kernel)) ggL_law_L_count
set_option maxRecDepth 20000 in
theorem ggL_law_X5_count : GoodIn wsL_law wsX5_count := goodIn_r _ [568, 127, 128, 5, 129, 130, 131, 132, 133, 134, 569, 570, 571, 572, 69, 143, 418, 419, 420, 421, 422, 423, 424, 573, 574, 575, 576, 501, 502, 503, 504, 251, 252, 253, 254, 255, 256, 257, 258, 577, 578, 579, 580, 497, 498, 499, 500, 718, 719, 720, 721, 722, 723, 724, 725, 726, 727] (by decide +kernel) (by decide +kernel)
set_option maxRecDepth 20000 in
theorem gL_law_X5_count : GoodIn wsL_law (wsV RL 133 RX5 yX5_count wsX5_count) := goodIn_app (goodIn_of _ (by decide +kernel)) ggL_law_X5_count
set_option maxRecDepth 20000 in
theorem ggL_law_L_heaviest : GoodIn wsL_law wsL_heaviest := goodIn_ca (goodIn_r _ [583, 80, 584, 585, 586, 2, 587, 87, 88, 29, 16, 194, 195, 196, 28, 197, 58, 198, 199, 200, 201, 202, 203, 204, 205, 206, 106, 107, 15, 108, 39, 40, 41, 42, 207, 208, 209, 55, 91, 92, 161, 162, 210, 211, 212, 213, 214, 56, 215, 216, 217, 218, 225, 226, 227, 228, 229, 230, 231, 232, 233, 234, 43, 709, 710, 711, 712, 713, 714, 715, 716, 717, 745, 746, 747, 748, 749, 750, 728, 729, 730, 731, 732, 733, 734, 735, 736, 737] (by decide +kernel) (by decide +kernel)) (goodIn_sub (fun _ h => List.mem_append_left _ (List.mem_append_right _ h)) (by decide +kernel))
set_option maxRecDepth 20000 in
theorem gL_law_L_heaviest : GoodIn wsL_law (va_wsS RL 134 yL_heaviest wsL_heaviest) := goodIn_app (goodIn_of _ (by decide +kernel)) ggL_law_L_heaviest
set_option maxRecDepth 20000 in
theorem ggL_law_X5_heaviest : GoodIn wsL_law wsX5_heaviest := goodIn_r _ [591, 127, 128, 5, 129, 130, 131, 132, 133, 134, 592, 593, 594, 595, 247, 248, 249, 250, 251, 252, 253, 254, 69, 255, 256, 257, 258, 259, 260, 261, 262, 263, 264, 265, 266, 267, 268, 718, 719, 720, 721, 722, 723, 724, 725, 726, 727] (by decide +kernel) (by decide +kernel)
set_option maxRecDepth 20000 in
theorem gL_law_X5_heaviest : GoodIn wsL_law (wsV RL 136 RX5 yX5_heaviest wsX5_heaviest) := goodIn_app (goodIn_of _ (by decide +kernel)) ggL_law_X5_heaviest
set_option maxRecDepth 20000 in
theorem ggL_law_L_openWay : GoodIn wsL_law wsL_openWay := goodIn_ca (goodIn_r _ [598, 80, 599, 600, 601, 2, 602, 87, 88, 29, 16, 229, 230, 194, 195, 196, 28, 197, 58, 198, 199, 200, 201, 202, 203, 204, 205, 206, 106, 107, 15, 108, 39, 40, 41, 42, 207, 208, 209, 55, 91, 92, 161, 162, 210, 211, 212, 213, 214, 56, 215, 216, 217, 218, 709, 710, 711, 712, 713, 714, 715, 716, 717, 745, 746, 747, 748, 749, 750, 728, 729, 730, 731, 732, 733, 734, 735, 736, 737] (by decide +kernel) (by decide +kernel)) (goodIn_sub (fun _ h => List.mem_append_left _ (List.mem_append_right _ h)) (by decide +kernel))
set_option maxRecDepth 20000 in
theorem gL_law_L_openWay : GoodIn wsL_law (va_wsS RL 137 yL_openWay wsL_openWay) := goodIn_app (goodIn_of _ (by decide +kernel)) ggL_law_L_openWay
set_option maxRecDepth 20000 in
theorem ggL_law_X5_openWay : GoodIn wsL_law wsX5_openWay := goodIn_r _ [606, 130, 131, 132, 5, 133, 134, 607, 608, 609, 610, 251, 252, 253, 254, 69, 255, 256, 257, 258, 263, 264, 265, 266, 267, 268, 718, 719, 720, 721, 722, 723, 724, 725, 726, 727] (by decide +kernel) (by decide +kernel)
set_option maxRecDepth 20000 in
theorem gL_law_X5_openWay : GoodIn wsL_law (wsV RL 139 RX5 yX5_openWay wsX5_openWay) := goodIn_app (goodIn_of _ (by decide +kernel)) ggL_law_X5_openWay
set_option maxRecDepth 20000 in
theorem ggL_law_X4_ifSplit : GoodIn wsL_law wsX4_ifSplit := goodIn_r _ [614, 16, 17, 29, 468, 102, 103, 2, 104, 105, 106, 107, 15, 108, 39, 40, 41, 42, 109, 110, 111, 112, 43, 44, 45, 113, 114, 115, 194, 195, 196, 28, 197, 58, 198, 199, 200, 201, 202, 203, 204, 205, 206, 207, 208, 209, 55, 91, 92, 161, 162, 210, 211, 212, 213, 214, 56, 215, 216, 217, 218, 273, 274, 275, 276, 219, 220, 221, 222, 223, 224, 225, 226, 227, 228, 229, 230, 231, 232, 233, 234, 235, 236, 237, 238, 541, 542, 543, 709, 710, 711, 712, 713, 714, 715, 716, 717, 728, 729, 730, 731, 732, 733, 734, 735, 736, 737, 745, 746, 747, 748, 749, 750] (by decide +kernel) (by decide +kernel)
set_option maxRecDepth 20000 in
theorem gL_law_X4_ifSplit : GoodIn wsL_law (wsV RL 140 RX4 yX4_ifSplit wsX4_ifSplit) := goodIn_app (goodIn_of _ (by decide +kernel)) ggL_law_X4_ifSplit
set_option maxRecDepth 20000 in
theorem ggL_law_X5_ifSplit : GoodIn wsL_law wsX5_ifSplit := goodIn_r _ [618, 134, 619, 620, 621, 5, 622, 623, 624, 625, 626, 70, 69, 281, 282, 283, 284, 243, 244, 245, 246, 247, 248, 249, 250, 251, 252, 253, 254, 255, 256, 257, 258, 259, 260, 261, 262, 263, 264, 265, 266, 267, 268, 573, 574, 575, 576, 627, 628, 629, 630, 718, 719, 720, 721, 722, 723, 724, 725, 726, 727] (by decide +kernel) (by decide +kernel)
set_option maxRecDepth 20000 in
theorem gL_law_X5_ifSplit : GoodIn wsL_law (wsV RL 143 RX5 yX5_ifSplit wsX5_ifSplit) := goodIn_app (goodIn_of _ (by decide +kernel)) ggL_law_X5_ifSplit
set_option maxRecDepth 20000 in
theorem ggL_law_X4_mainPiece : GoodIn wsL_law wsX4_mainPiece := goodIn_r _ [634, 29, 16, 230, 229, 194, 195, 196, 28, 197, 58, 198, 199, 200, 201, 202, 203, 204, 205, 206, 106, 107, 15, 108, 39, 40, 41, 42, 207, 208, 209, 55, 91, 2, 92, 161, 162, 210, 211, 212, 213, 214, 56, 215, 216, 217, 218, 482, 483, 484, 160, 709, 710, 711, 712, 713, 714, 715, 716, 717, 745, 746, 747, 748, 749, 750, 728, 729, 730, 731, 732, 733, 734, 735, 736, 737] (by decide +kernel) (by decide +kernel)
set_option maxRecDepth 20000 in
theorem gL_law_X4_mainPiece : GoodIn wsL_law (wsV RL 144 RX4 yX4_mainPiece wsX4_mainPiece) := goodIn_app (goodIn_of _ (by decide +kernel)) ggL_law_X4_mainPiece
set_option maxRecDepth 20000 in
theorem ggL_law_X5_mainPiece : GoodIn wsL_law wsX5_mainPiece := goodIn_r _ [638, 134, 639, 640, 641, 5, 642, 501, 502, 503, 504, 251, 252, 253, 254, 69, 255, 256, 257, 258, 718, 719, 720, 721, 722, 723, 724, 725, 726, 727] (by decide +kernel) (by decide +kernel)
set_option maxRecDepth 20000 in
theorem gL_law_X5_mainPiece : GoodIn wsL_law (wsV RL 147 RX5 yX5_mainPiece wsX5_mainPiece) := goodIn_app (goodIn_of _ (by decide +kernel)) ggL_law_X5_mainPiece
set_option maxRecDepth 20000 in
theorem ggL_law_X4_explained : GoodIn wsL_law wsX4_explained := goodIn_r _ [646, 16, 89, 468, 541, 542, 2, 543, 709, 710, 711, 712, 713, 714, 715, 716, 717, 728, 729, 730, 731, 732, 733, 734, 735, 736, 737] (by decide +kernel) (by decide +kernel)
set_option maxRecDepth 20000 in
theorem gL_law_X4_explained : GoodIn wsL_law (wsV RL 148 RX4 yX4_explained wsX4_explained) := goodIn_app (goodIn_of _ (by decide +kernel)) ggL_law_X4_explained
set_option maxRecDepth 20000 in
theorem ggL_law_X5_explained : GoodIn wsL_law wsX5_explained := goodIn_r _ [650, 134, 651, 652, 653, 5, 654, 573, 574, 575, 576, 69, 718, 719, 720, 721, 722, 723, 724, 725, 726, 727] (by decide +kernel) (by decide +kernel)
set_option maxRecDepth 20000 in
theorem gL_law_X5_explained : GoodIn wsL_law (wsV RL 152 RX5 yX5_explained wsX5_explained) := goodIn_app (goodIn_of _ (by decide +kernel)) ggL_law_X5_explained
set_option maxRecDepth 20000 in
theorem ggL_law_X4_digest : GoodIn wsL_law wsX4_digest := goodIn_ca (goodIn_ca (goodIn_r _ [658, 659, 16, 223, 21, 660, 537, 538, 2, 539, 87, 88, 89, 468, 29, 471, 229, 33, 540, 224, 97, 399, 400, 401, 15, 402, 41, 403, 404, 405, 406, 407, 408, 409, 541, 542, 543, 544, 545, 546, 28, 547, 59, 199, 204, 161, 162, 194, 195, 196, 197, 58, 198, 200, 201, 202, 203, 205, 206, 106, 107, 108, 39, 40, 42, 207, 208, 209, 55, 91, 92, 210, 211, 212, 213, 214, 56, 215, 216, 217, 218, 477, 478, 479, 32, 480, 63, 481, 548, 549, 550, 551, 64, 552, 553, 554, 555, 556, 557, 558, 559, 560, 561, 562, 563, 564, 661, 662, 663, 664, 665, 666, 667, 668, 669, 465, 466, 467, 85, 86, 34, 159, 469, 470, 185, 90, 472, 473, 474, 475, 476, 482, 483, 484, 160, 670, 509, 510, 511, 671, 520, 521, 522, 523, 524, 672, 585, 586, 587, 225, 226, 227, 228, 230, 231, 232, 233, 234, 43, 673, 600, 601, 602, 674, 612, 613, 614, 17, 102, 103, 104, 105, 109, 110, 111, 112, 44, 45, 113, 114, 115, 273, 274, 275, 276, 219, 220, 221, 222, 235, 236, 237, 238, 675, 632, 633, 634, 676, 644, 645, 646, 677, 678, 679, 680, 681, 682, 683, 684, 685, 686, 25, 303, 304, 709, 710, 711, 712, 713, 714, 715, 716, 717, 728, 729, 730, 731, 732, 733, 734, 735, 736, 737, 745, 746, 747, 748, 749, 750, 751, 752, 753, 738, 739, 740, 741, 742, 743, 744] (by decide +kernel) (by decide +kernel)) (goodIn_sub (fun _ h => List.mem_append_left _ (List.mem_append_right _ h)) (by decide +kernel))) (goodIn_sub (fun _ h => List.mem_append_left _ (List.mem_append_left _ (List.mem_append_right _ h))) (by decide +kernel))
set_option maxRecDepth 20000 in
theorem gL_law_X4_digest : GoodIn wsL_law (wsV RL 153 RX4 yX4_digest wsX4_digest) := goodIn_app (goodIn_of _ (by decide +kernel)) ggL_law_X4_digest
set_option maxRecDepth 20000 in
theorem ggL_law_X5_digest : GoodIn wsL_law wsX5_digest := goodIn_r _ [690, 134, 691, 692, 69, 72, 309, 74, 569, 570, 571, 5, 572, 143, 418, 419, 420, 421, 422, 423, 424, 573, 574, 575, 576, 501, 502, 503, 504, 251, 252, 253, 254, 255, 256, 257, 258, 577, 578, 579, 580, 497, 498, 499, 500, 693, 694, 695, 696, 697, 698, 699, 700, 701, 489, 490, 491, 492, 493, 494, 495, 496, 529, 530, 531, 532, 592, 593, 594, 595, 247, 248, 249, 250, 259, 260, 261, 262, 263, 264, 265, 266, 267, 268, 607, 608, 609, 610, 619, 620, 621, 622, 623, 624, 625, 626, 70, 281, 282, 283, 284, 243, 244, 245, 246, 627, 628, 629, 630, 639, 640, 641, 642, 651, 652, 653, 654, 702, 703, 704, 705, 706, 707, 708, 718, 719, 720, 721, 722, 723, 724, 725, 726, 727] (by decide +kernel) (by decide +kernel)
set_option maxRecDepth 20000 in
theorem gL_law_X5_digest : GoodIn wsL_law (wsV RL 157 RX5 yX5_digest wsX5_digest) := goodIn_app (goodIn_of _ (by decide +kernel)) ggL_law_X5_digest
