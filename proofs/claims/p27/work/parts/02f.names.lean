set_option maxRecDepth 20000 in
theorem gz_holds_wsL_holds_r1 : GoodIn wsL_law wsL_holds_r1 := goodIn_r _ [34, 65, 66, 67, 2, 68, 69, 70, 71, 72, 12, 73, 74, 30, 75, 29, 76, 25, 77, 78, 79, 80, 81, 82] (by decide +kernel) (by decide +kernel)
set_option maxRecDepth 20000 in
theorem gz_holds_wsL_holds_r2 : GoodIn wsL_law wsL_holds_r2 := goodIn_r _ [83, 84, 85, 11, 86, 37, 87, 88, 89, 90, 91, 92, 93, 94, 95, 96, 97, 98, 28, 99, 59, 100, 101, 102] (by decide +kernel) (by decide +kernel)
set_option maxRecDepth 20000 in
theorem gz_holds_wsL_holds_r3 : GoodIn wsL_law wsL_holds_r3 := goodIn_r _ [103, 24, 104, 54, 105, 106, 107, 108, 109, 110, 111, 112, 113, 114, 115, 116, 35, 36, 38, 117, 118, 119, 51, 120] (by decide +kernel) (by decide +kernel)
set_option maxRecDepth 20000 in
theorem gz_holds_wsL_holds_r4 : GoodIn wsL_law wsL_holds_r4 := goodIn_r _ [121, 122, 123, 124, 52, 125, 126, 127, 128, 129, 130, 131, 132, 133, 134, 135, 136, 137, 138, 63, 139, 140, 141, 142] (by decide +kernel) (by decide +kernel)
set_option maxRecDepth 20000 in
theorem gz_holds_wsL_holds_r5 : GoodIn wsL_law wsL_holds_r5 := goodIn_r _ [143, 144, 145, 146, 147, 148, 149, 150, 151, 152, 153, 154, 155, 156, 157, 158, 159, 160, 161, 162, 163, 164, 165, 166] (by decide +kernel) (by decide +kernel)
set_option maxRecDepth 20000 in
theorem gz_holds_wsL_holds_r6 : GoodIn wsL_law wsL_holds_r6 := goodIn_r _ [55, 167, 168, 169, 170, 60, 171, 172, 173, 174, 175, 176, 177, 178, 179, 180, 181, 182, 183, 184, 185, 186, 187, 188] (by decide +kernel) (by decide +kernel)
set_option maxRecDepth 20000 in
theorem gz_holds_wsL_holds_r7 : GoodIn wsL_law wsL_holds_r7 := goodIn_r _ [189, 190, 191, 192, 193, 194, 195, 196, 197, 198, 199, 200, 39, 201, 202, 203, 204, 205, 206, 207, 208, 209, 210, 211] (by decide +kernel) (by decide +kernel)
set_option maxRecDepth 20000 in
theorem gz_holds_wsL_holds_r8 : GoodIn wsL_law wsL_holds_r8 := goodIn_r _ [212, 213, 214, 215, 216, 217, 218, 13, 219, 220, 221, 222, 223, 224, 225, 226, 40, 41, 227, 228, 229, 230, 231, 232] (by decide +kernel) (by decide +kernel)
set_option maxRecDepth 20000 in
theorem gz_holds_wsL_holds_r9 : GoodIn wsL_law wsL_holds_r9 := goodIn_r _ [233, 234, 235, 236, 237, 238, 239, 240, 241] (by decide +kernel) (by decide +kernel)
set_option maxRecDepth 20000 in
theorem gz_holds_wsX40 : GoodIn wsL_law wsX40 := goodIn_r _ [310, 311, 312, 313, 314, 315, 316, 317, 318] (by decide +kernel) (by decide +kernel)
set_option maxRecDepth 20000 in
theorem gz_holds_wsX10 : GoodIn wsL_law wsX10 := goodIn_r _ [319, 320, 321, 322, 323, 324, 325, 326, 327, 328] (by decide +kernel) (by decide +kernel)
set_option maxRecDepth 20000 in
theorem gz_holds_wsX00 : GoodIn wsL_law wsX00 := goodIn_r _ [342, 343, 344] (by decide +kernel) (by decide +kernel)
set_option maxRecDepth 20000 in
theorem gz_holds_wsX30 : GoodIn wsL_law wsX30 := goodIn_r _ [336, 337, 338, 339, 340, 341] (by decide +kernel) (by decide +kernel)
set_option maxRecDepth 20000 in
theorem gz_holds_0 : GoodIn wsL_law [.code yL_holds cL_holds 22 (some .boolean)] := goodIn_sub (fun w h => by rw [List.mem_singleton.mp h]; exact List.mem_of_getElem? (i := 64) rfl) rfl
set_option maxRecDepth 20000 in
theorem ggL_law_L_holds : GoodIn wsL_law wsL_holds := goodIn_ca (goodIn_ca (goodIn_app gz_holds_0 (goodIn_app (goodIn_app (goodIn_app (goodIn_app (goodIn_app gz_holds_wsL_holds_r1 (goodIn_app gz_holds_wsL_holds_r2 (goodIn_app gz_holds_wsL_holds_r3 (goodIn_app gz_holds_wsL_holds_r4 (goodIn_app gz_holds_wsL_holds_r5 (goodIn_app gz_holds_wsL_holds_r6 (goodIn_app gz_holds_wsL_holds_r7 (goodIn_app gz_holds_wsL_holds_r8 gz_holds_wsL_holds_r9)))))))) gz_holds_wsX40) gz_holds_wsX10) gz_holds_wsX00) gz_holds_wsX30)) (goodIn_sub (fun _ h => List.mem_append_left _ (List.mem_append_left _ (List.mem_append_right _ h))) (by decide +kernel))) (goodIn_sub (fun _ h => List.mem_append_left _ (List.mem_append_right _ h)) (by decide +kernel))
set_option maxRecDepth 20000 in
theorem gL_law_L_holds : GoodIn wsL_law (va_wsS RL 80 yL_holds wsL_holds) := goodIn_app (goodIn_of _ (by decide +kernel)) ggL_law_L_holds
set_option maxRecDepth 20000 in
theorem ggL_law_X4_count : GoodIn wsL_law wsX4_count := goodIn_ca (goodIn_r _ [149, 71, 72, 12, 73, 74, 150, 25, 78, 151, 29, 152, 153, 154, 155, 156, 157, 11, 158, 37, 159, 90, 91, 92, 93, 94, 95, 160, 161, 2, 162, 163, 164, 165, 24, 166, 55, 106, 111, 87, 88, 101, 102, 103, 104, 54, 105, 107, 108, 109, 110, 112, 113, 114, 115, 116, 35, 36, 38, 117, 118, 119, 51, 81, 82, 120, 121, 122, 123, 124, 52, 125, 126, 127, 128, 96, 97, 98, 28, 99, 59, 100, 167, 168, 169, 170, 60, 171, 172, 173, 174, 175, 176, 177, 178, 179, 180, 181, 182, 183, 310, 311, 312, 313, 314, 315, 316, 317, 318, 319, 320, 321, 322, 323, 324, 325, 326, 327, 328, 336, 337, 338, 339, 340, 341, 342, 343, 344] (by decide +kernel) (by decide +kernel)) (goodIn_sub (fun _ h => List.mem_append_left _ (List.mem_append_right _ h)) (by decide +kernel))
set_option maxRecDepth 20000 in
theorem gL_law_X4_count : GoodIn wsL_law (wsV RL 15 RX4 yX4_count wsX4_count) := goodIn_app (goodIn_of _ (by decide +kernel)) ggL_law_X4_count
set_option maxRecDepth 20000 in
theorem ggL_law_X4_keep : GoodIn wsL_law wsX4_keep := goodIn_ca (goodIn_r _ [245, 71, 72, 12, 15, 17, 246, 247, 2, 248, 219, 220, 221, 222, 114, 115, 11, 116, 35, 36, 37, 38, 223, 224, 225, 226, 39, 40, 41, 227, 228, 229, 155, 156, 157, 158, 159, 90, 91, 92, 93, 94, 95, 310, 311, 312, 313, 314, 315, 316, 317, 318, 319, 320, 321, 322, 323, 324, 325, 326, 327, 328] (by decide +kernel) (by decide +kernel)) (goodIn_sub (fun _ h => List.mem_append_left _ (List.mem_append_right _ h)) (by decide +kernel))
set_option maxRecDepth 20000 in
theorem gL_law_X4_keep : GoodIn wsL_law (wsV RL 84 RX4 yX4_keep wsX4_keep) := goodIn_app (goodIn_of _ (by decide +kernel)) ggL_law_X4_keep
set_option maxRecDepth 20000 in
theorem ggL_law_L_cell : GoodIn wsL_law wsL_cell := goodIn_r _ [251, 252] (by decide +kernel) (by decide +kernel)
set_option maxRecDepth 20000 in
theorem gL_law_L_cell : GoodIn wsL_law (va_wsS RL 87 yL_cell wsL_cell) := goodIn_app (goodIn_of _ (by decide +kernel)) ggL_law_L_cell
set_option maxRecDepth 20000 in
theorem gz_change_wsL_change_r1 : GoodIn wsL_law wsL_change_r1 := goodIn_r _ [256, 257, 63, 258, 259, 146, 147, 148, 2, 149, 71, 72, 12, 73, 74, 150, 25, 78, 151, 29, 152, 153, 154, 155] (by decide +kernel) (by decide +kernel)
set_option maxRecDepth 20000 in
theorem gz_change_wsL_change_r2 : GoodIn wsL_law wsL_change_r2 := goodIn_r _ [156, 157, 11, 158, 37, 159, 90, 91, 92, 93, 94, 95, 160, 161, 162, 163, 164, 165, 24, 166, 55, 106, 111, 87] (by decide +kernel) (by decide +kernel)
set_option maxRecDepth 20000 in
theorem gz_change_wsL_change_r3 : GoodIn wsL_law wsL_change_r3 := goodIn_r _ [88, 101, 102, 103, 104, 54, 105, 107, 108, 109, 110, 112, 113, 114, 115, 116, 35, 36, 38, 117, 118, 119, 51, 81] (by decide +kernel) (by decide +kernel)
set_option maxRecDepth 20000 in
theorem gz_change_wsL_change_r4 : GoodIn wsL_law wsL_change_r4 := goodIn_r _ [82, 120, 121, 122, 123, 124, 52, 125, 126, 127, 128, 96, 97, 98, 28, 99, 59, 100, 167, 168, 169, 170, 60, 171] (by decide +kernel) (by decide +kernel)
set_option maxRecDepth 20000 in
theorem gz_change_wsL_change_r5 : GoodIn wsL_law wsL_change_r5 := goodIn_r _ [172, 173, 174, 175, 176, 177, 178, 179, 180, 181, 182, 183, 65, 66, 67, 68, 69, 70, 30, 75, 76, 77, 79, 80] (by decide +kernel) (by decide +kernel)
set_option maxRecDepth 20000 in
theorem gz_change_wsL_change_r6 : GoodIn wsL_law wsL_change_r6 := goodIn_r _ [83, 84, 85, 86, 89, 129, 130, 131, 132, 260, 261, 262, 263, 264, 265, 266, 267, 14, 268, 269, 270, 271, 219, 220] (by decide +kernel) (by decide +kernel)
set_option maxRecDepth 20000 in
theorem gz_change_wsL_change_r7 : GoodIn wsL_law wsL_change_r7 := goodIn_r _ [221, 222, 223, 224, 225, 226, 39, 40, 41, 227, 228, 229, 272, 273, 274, 275, 133, 134, 135, 136, 276, 277, 278, 279] (by decide +kernel) (by decide +kernel)
set_option maxRecDepth 20000 in
theorem gz_change_wsL_change_r8 : GoodIn wsL_law wsL_change_r8 := goodIn_r _ [280, 281, 282, 283, 284, 285, 286, 287, 189, 190, 191, 192, 193, 194, 195, 196, 188, 197, 198, 199, 200, 288, 289, 290] (by decide +kernel) (by decide +kernel)
set_option maxRecDepth 20000 in
theorem gz_change_wsL_change_r9 : GoodIn wsL_law wsL_change_r9 := goodIn_r _ [291, 234, 235, 236, 237, 238, 239, 240, 241, 209, 210, 211, 212, 213, 214, 215, 216, 217, 218, 13, 230, 231, 232, 233] (by decide +kernel) (by decide +kernel)
set_option maxRecDepth 20000 in
theorem gz_change_wsL_change_r10 : GoodIn wsL_law wsL_change_r10 := goodIn_r _ [292, 293, 294, 295, 296, 297, 298, 299] (by decide +kernel) (by decide +kernel)
set_option maxRecDepth 20000 in
theorem gz_change_wsX40 : GoodIn wsL_law wsX40 := goodIn_r _ [310, 311, 312, 313, 314, 315, 316, 317, 318] (by decide +kernel) (by decide +kernel)
set_option maxRecDepth 20000 in
theorem gz_change_wsX10 : GoodIn wsL_law wsX10 := goodIn_r _ [319, 320, 321, 322, 323, 324, 325, 326, 327, 328] (by decide +kernel) (by decide +kernel)
set_option maxRecDepth 20000 in
theorem gz_change_wsX30 : GoodIn wsL_law wsX30 := goodIn_r _ [336, 337, 338, 339, 340, 341] (by decide +kernel) (by decide +kernel)
set_option maxRecDepth 20000 in
theorem gz_change_wsX00 : GoodIn wsL_law wsX00 := goodIn_r _ [342, 343, 344] (by decide +kernel) (by decide +kernel)
set_option maxRecDepth 20000 in
theorem gz_change_0 : GoodIn wsL_law [.code yL_change cL_change 16 (some .boolean)] := goodIn_sub (fun w h => by rw [List.mem_singleton.mp h]; exact List.mem_of_getElem? (i := 255) rfl) rfl
set_option maxRecDepth 20000 in
theorem ggL_law_L_change : GoodIn wsL_law wsL_change := goodIn_ca (goodIn_ca (goodIn_app gz_change_0 (goodIn_app (goodIn_app (goodIn_app (goodIn_app (goodIn_app gz_change_wsL_change_r1 (goodIn_app gz_change_wsL_change_r2 (goodIn_app gz_change_wsL_change_r3 (goodIn_app gz_change_wsL_change_r4 (goodIn_app gz_change_wsL_change_r5 (goodIn_app gz_change_wsL_change_r6 (goodIn_app gz_change_wsL_change_r7 (goodIn_app gz_change_wsL_change_r8 (goodIn_app gz_change_wsL_change_r9 gz_change_wsL_change_r10))))))))) gz_change_wsX40) gz_change_wsX10) gz_change_wsX30) gz_change_wsX00)) (goodIn_sub (fun _ h => List.mem_append_left _ (List.mem_append_right _ h)) (by decide +kernel))) (goodIn_sub (fun _ h => List.mem_append_left _ (List.mem_append_left _ (List.mem_append_right _ h))) (by decide +kernel))
