/-! the words of the methods that the law calls, among the tables' words -/
set_option maxRecDepth 20000 in
theorem gL_X1_constant : GoodIn lw_tbl (wsV RL 21 RX1 yX1_constant wsX1_constant) := goodIn_r _ [96, 97, 98, 16, 99, 70, 69, 100, 101, 16, 102, 103, 104, 105, 106, 107, 20, 108, 75, 77, 79, 81, 83, 85, 87, 89, 91, 93] (by decide +kernel) (by decide +kernel)
set_option maxRecDepth 20000 in
theorem gL_X2_constant : GoodIn lw_tbl (wsV RL 25 RX2 yX2_constant wsX2_constant) := goodIn_r _ [265, 266, 267, 19, 268, 19, 248, 249, 250, 246, 247, 245, 269, 270, 271, 272, 274, 9, 275, 280, 282, 10, 283, 284, 286, 11, 287, 292, 294, 12, 295, 312, 314, 13, 315, 328, 330, 14, 331, 251, 253, 255, 257, 259, 261] (by decide +kernel) (by decide +kernel)
set_option maxRecDepth 20000 in
theorem gL_X1_variable : GoodIn lw_tbl (wsV RL 26 RX1 yX1_variable wsX1_variable) := goodIn_r _ [109, 110, 111, 16, 112, 67, 70, 100, 101, 16, 102, 113, 115, 0, 116, 65, 117, 119, 1, 120, 121, 123, 2, 124, 125, 69, 75, 77, 79, 81, 83, 85, 87, 89, 91, 93] (by decide +kernel) (by decide +kernel)
set_option maxRecDepth 20000 in
theorem gL_X2_variable : GoodIn lw_tbl (wsV RL 29 RX2 yX2_variable wsX2_variable) := goodIn_r _ [276, 277, 278, 19, 279, 19, 248, 249, 250, 246, 247, 245, 269, 270, 271, 272, 274, 9, 275, 280, 282, 10, 283, 284, 286, 11, 287, 292, 294, 12, 295, 312, 314, 13, 315, 328, 330, 14, 331, 251, 253, 255, 257, 259, 261] (by decide +kernel) (by decide +kernel)
set_option maxRecDepth 20000 in
theorem gL_X1_combine : GoodIn lw_tbl (wsV RL 30 RX1 yX1_combine wsX1_combine) := goodIn_r _ [127, 128, 129, 16, 130, 67, 70, 100, 101, 16, 102, 131, 132, 133, 37, 75, 77, 79, 81, 83, 85, 87, 89, 91, 93] (by decide +kernel) (by decide +kernel)
set_option maxRecDepth 20000 in
theorem gL_X2_combine : GoodIn lw_tbl (wsV RL 34 RX2 yX2_combine wsX2_combine) := goodIn_r _ [288, 289, 290, 19, 291, 19, 248, 249, 250, 246, 247, 245, 269, 270, 271, 272, 274, 9, 275, 280, 282, 10, 283, 284, 286, 11, 287, 292, 294, 12, 295, 312, 314, 13, 315, 328, 330, 14, 331, 251, 253, 255, 257, 259, 261] (by decide +kernel) (by decide +kernel)
set_option maxRecDepth 20000 in
theorem gL_X1_choose : GoodIn lw_tbl (wsV RL 35 RX1 yX1_choose wsX1_choose) := goodIn_r _ [134, 135, 136, 16, 137, 67, 70, 100, 101, 16, 102, 138, 139, 140, 37, 75, 77, 79, 81, 83, 85, 87, 89, 91, 93] (by decide +kernel) (by decide +kernel)
set_option maxRecDepth 20000 in
theorem gL_X2_choose : GoodIn lw_tbl (wsV RL 38 RX2 yX2_choose wsX2_choose) := goodIn_r _ [296, 297, 298, 19, 299, 19, 248, 249, 250, 246, 247, 245, 269, 270, 271, 272, 274, 9, 275, 280, 282, 10, 283, 284, 286, 11, 287, 292, 294, 12, 295, 312, 314, 13, 315, 328, 330, 14, 331, 251, 253, 255, 257, 259, 261] (by decide +kernel) (by decide +kernel)
set_option maxRecDepth 20000 in
theorem gL_X1_fix : GoodIn lw_tbl (wsV RL 39 RX1 yX1_fix wsX1_fix) := goodIn_r _ [141, 142, 143, 16, 144, 67, 70, 71, 100, 101, 16, 102, 113, 115, 0, 116, 65, 103, 104, 105, 117, 119, 1, 120, 145, 146, 147, 125, 37, 121, 123, 2, 124, 69, 138, 139, 140, 148, 150, 3, 151, 152, 154, 153, 21, 75, 77, 79, 81, 83, 85, 87, 89, 91, 93] (by decide +kernel) (by decide +kernel)
set_option maxRecDepth 20000 in
theorem gL_X2_fix : GoodIn lw_tbl (wsV RL 42 RX2 yX2_fix wsX2_fix) := goodIn_r _ [300, 301, 302, 19, 303, 19, 248, 249, 250, 246, 247, 245, 269, 270, 271, 272, 274, 9, 275, 280, 282, 10, 283, 284, 286, 11, 287, 292, 294, 12, 295, 312, 314, 13, 315, 328, 330, 14, 331, 251, 253, 255, 257, 259, 261] (by decide +kernel) (by decide +kernel)
set_option maxRecDepth 20000 in
theorem gL_X1_exists : GoodIn lw_tbl (wsV RL 43 RX1 yX1_exists wsX1_exists) := goodIn_r _ [155, 156, 157, 16, 158, 70, 71, 67, 152, 154, 153, 21, 100, 101, 16, 102, 113, 115, 0, 116, 65, 117, 119, 1, 120, 159, 161, 4, 162, 145, 146, 147, 125, 37, 148, 150, 3, 151, 75, 77, 79, 81, 83, 85, 87, 89, 91, 93] (by decide +kernel) (by decide +kernel)
set_option maxRecDepth 20000 in
theorem gL_X2_exists : GoodIn lw_tbl (wsV RL 46 RX2 yX2_exists wsX2_exists) := goodIn_r _ [304, 305, 306, 19, 307, 19, 248, 249, 250, 246, 247, 245, 269, 270, 271, 272, 274, 9, 275, 280, 282, 10, 283, 284, 286, 11, 287, 292, 294, 12, 295, 312, 314, 13, 315, 328, 330, 14, 331, 251, 253, 255, 257, 259, 261] (by decide +kernel) (by decide +kernel)
set_option maxRecDepth 20000 in
theorem gL_X1_substitute : GoodIn lw_tbl (wsV RL 47 RX1 yX1_substitute wsX1_substitute) := goodIn_r _ [163, 164, 165, 16, 166, 65, 67, 68, 70, 73, 71, 100, 101, 16, 102, 167, 168, 169, 170, 172, 5, 173, 174, 175, 20, 176, 177, 178, 179, 148, 150, 3, 151, 152, 154, 153, 21, 75, 77, 79, 81, 83, 85, 87, 89, 91, 93] (by decide +kernel) (by decide +kernel)
set_option maxRecDepth 20000 in
theorem gL_X2_substitute : GoodIn lw_tbl (wsV RL 51 RX2 yX2_substitute wsX2_substitute) := goodIn_r _ [308, 309, 310, 19, 311, 19, 248, 249, 250, 246, 247, 245, 269, 270, 271, 272, 274, 9, 275, 280, 282, 10, 283, 284, 286, 11, 287, 292, 294, 12, 295, 312, 314, 13, 315, 328, 330, 14, 331, 251, 253, 255, 257, 259, 261] (by decide +kernel) (by decide +kernel)
set_option maxRecDepth 20000 in
theorem gL_X1_nearest : GoodIn lw_tbl (wsV RL 52 RX1 yX1_nearest wsX1_nearest) := goodIn_r _ [180, 181, 182, 16, 183, 67, 72, 70, 71, 65, 37, 100, 101, 16, 102, 145, 146, 147, 125, 159, 161, 4, 162, 148, 150, 3, 151, 152, 154, 153, 21, 75, 77, 79, 81, 83, 85, 87, 89, 91, 93] (by decide +kernel) (by decide +kernel)
set_option maxRecDepth 20000 in
theorem gL_X2_nearest : GoodIn lw_tbl (wsV RL 55 RX2 yX2_nearest wsX2_nearest) := goodIn_r _ [316, 317, 318, 19, 319, 19, 248, 249, 250, 246, 247, 245, 269, 270, 271, 272, 274, 9, 275, 280, 282, 10, 283, 284, 286, 11, 287, 292, 294, 12, 295, 312, 314, 13, 315, 328, 330, 14, 331, 251, 253, 255, 257, 259, 261] (by decide +kernel) (by decide +kernel)
set_option maxRecDepth 20000 in
theorem gL_X1_image : GoodIn lw_tbl (wsV RL 56 RX1 yX1_image wsX1_image) := goodIn_r _ [184, 185, 186, 16, 187, 65, 71, 67, 70, 100, 101, 16, 102, 113, 115, 0, 116, 167, 168, 169, 106, 107, 20, 108, 170, 172, 5, 173, 73, 68, 174, 175, 176, 188, 190, 6, 191, 159, 161, 4, 162, 145, 146, 147, 125, 37, 148, 150, 3, 151, 152, 154, 153, 21, 75, 77, 79, 81, 83, 85, 87, 89, 91, 93] (by decide +kernel) (by decide +kernel)
set_option maxRecDepth 20000 in
theorem gL_X2_image : GoodIn lw_tbl (wsV RL 59 RX2 yX2_image wsX2_image) := goodIn_r _ [320, 321, 322, 19, 323, 19, 248, 249, 250, 246, 247, 245, 269, 270, 271, 272, 274, 9, 275, 280, 282, 10, 283, 284, 286, 11, 287, 292, 294, 12, 295, 312, 314, 13, 315, 328, 330, 14, 331, 251, 253, 255, 257, 259, 261] (by decide +kernel) (by decide +kernel)
set_option maxRecDepth 20000 in
theorem gL_X1_forks : GoodIn lw_tbl (wsV RL 60 RX1 yX1_forks wsX1_forks) := goodIn_r _ [192, 193, 194, 16, 195, 74, 70, 100, 101, 16, 102, 196, 197, 198, 18, 199, 48, 47, 178, 179, 201, 203, 7, 204, 51, 205, 175, 20, 176, 206, 208, 8, 209, 49, 50, 75, 77, 79, 81, 83, 85, 87, 89, 91, 93, 52, 54, 56, 58, 60] (by decide +kernel) (by decide +kernel)
set_option maxRecDepth 20000 in
theorem gL_X2_forks : GoodIn lw_tbl (wsV RL 64 RX2 yX2_forks wsX2_forks) := goodIn_r _ [324, 325, 326, 19, 327, 19, 248, 249, 250, 246, 247, 245, 269, 270, 271, 272, 274, 9, 275, 280, 282, 10, 283, 284, 286, 11, 287, 292, 294, 12, 295, 312, 314, 13, 315, 328, 330, 14, 331, 251, 253, 255, 257, 259, 261] (by decide +kernel) (by decide +kernel)
set_option maxRecDepth 20000 in
theorem gL_X1_ones : GoodIn lw_tbl (wsV RL 65 RX1 yX1_ones wsX1_ones) := goodIn_r _ [210, 211, 212, 16, 213, 67, 70, 100, 101, 16, 102, 214, 215, 22, 216, 217, 218, 219, 75, 77, 79, 81, 83, 85, 87, 89, 91, 93] (by decide +kernel) (by decide +kernel)
set_option maxRecDepth 20000 in
theorem gL_X2_ones : GoodIn lw_tbl (wsV RL 68 RX2 yX2_ones wsX2_ones) := goodIn_r _ [332, 333, 334, 19, 335, 19, 248, 249, 250, 246, 247, 245, 269, 270, 271, 272, 274, 9, 275, 280, 282, 10, 283, 284, 286, 11, 287, 292, 294, 12, 295, 312, 314, 13, 315, 328, 330, 14, 331, 251, 253, 255, 257, 259, 261] (by decide +kernel) (by decide +kernel)
set_option maxRecDepth 20000 in
theorem gL_X1_least : GoodIn lw_tbl (wsV RL 69 RX1 yX1_least wsX1_least) := goodIn_r _ [220, 221, 222, 16, 223, 67, 70, 100, 101, 16, 102, 224, 225, 226, 214, 215, 22, 216, 217, 218, 219, 75, 77, 79, 81, 83, 85, 87, 89, 91, 93] (by decide +kernel) (by decide +kernel)
set_option maxRecDepth 20000 in
theorem gL_X2_least : GoodIn lw_tbl (wsV RL 72 RX2 yX2_least wsX2_least) := goodIn_r _ [336, 337, 338, 19, 339, 19, 248, 249, 250, 246, 247, 245, 269, 270, 271, 272, 274, 9, 275, 280, 282, 10, 283, 284, 286, 11, 287, 292, 294, 12, 295, 312, 314, 13, 315, 328, 330, 14, 331, 251, 253, 255, 257, 259, 261] (by decide +kernel) (by decide +kernel)
set_option maxRecDepth 20000 in
theorem gL_X1_at : GoodIn lw_tbl (wsV RL 73 RX1 yX1_at wsX1_at) := goodIn_r _ [227, 228, 229, 16, 230, 66, 70, 100, 101, 16, 102, 177, 178, 179, 75, 77, 79, 81, 83, 85, 87, 89, 91, 93] (by decide +kernel) (by decide +kernel)
set_option maxRecDepth 20000 in
theorem gL_X2_at : GoodIn lw_tbl (wsV RL 77 RX2 yX2_at wsX2_at) := goodIn_r _ [340, 341, 342, 19, 343, 19, 248, 249, 250, 246, 247, 245, 269, 270, 271, 272, 274, 9, 275, 280, 282, 10, 283, 284, 286, 11, 287, 292, 294, 12, 295, 312, 314, 13, 315, 328, 330, 14, 331, 251, 253, 255, 257, 259, 261] (by decide +kernel) (by decide +kernel)
set_option maxRecDepth 20000 in
theorem gL_X1_same : GoodIn lw_tbl (wsV RL 78 RX1 yX1_same wsX1_same) := goodIn_r _ [231, 232, 233, 16, 234, 67, 70, 100, 101, 16, 102, 75, 77, 79, 81, 83, 85, 87, 89, 91, 93] (by decide +kernel) (by decide +kernel)
set_option maxRecDepth 20000 in
theorem gL_X2_same : GoodIn lw_tbl (wsV RL 81 RX2 yX2_same wsX2_same) := goodIn_r _ [344, 345, 346, 19, 347, 19, 248, 249, 250, 246, 247, 245, 269, 270, 271, 272, 274, 9, 275, 280, 282, 10, 283, 284, 286, 11, 287, 292, 294, 12, 295, 312, 314, 13, 315, 328, 330, 14, 331, 251, 253, 255, 257, 259, 261] (by decide +kernel) (by decide +kernel)
set_option maxRecDepth 20000 in
theorem gL_cell : GoodIn lw_tbl (va_wsS RL 9 yL_cell wsL_cell) := goodIn_r _ [235, 236, 15, 237] (by decide +kernel) (by decide +kernel)
set_option maxRecDepth 20000 in
theorem gL_X1_init : GoodIn lw_tbl (wsX1_init) := goodIn_r _ [27, 28, 29, 30, 31, 32, 17, 33, 34, 35, 36, 65, 66, 67, 68, 37, 69, 38, 63, 70, 71, 72, 64, 73, 40, 41, 18, 74, 42, 43, 44, 45, 47, 48, 49, 50, 46, 51, 75, 77, 79, 81, 83, 85, 87, 89, 91, 93, 52, 54, 56, 58, 60] (by decide +kernel) (by decide +kernel)
set_option maxRecDepth 20000 in
theorem gL_X2_init : GoodIn lw_tbl (wsX2_init) := goodIn_r _ [242, 243, 29, 30, 244, 248, 249, 264, 64, 250, 246, 247, 251, 253, 255, 257, 259, 261] (by decide +kernel) (by decide +kernel)
set_option maxRecDepth 20000 in
theorem inL_X0 : ∀ w ∈ wsX00, w ∈ lw_tbl := fun w h => (goodIn_r (big := lw_tbl) wsX00 [52, 54, 56, 58, 60] (by decide +kernel) (by decide +kernel) w h).1
set_option maxRecDepth 20000 in
theorem inL_X1 : ∀ w ∈ wsX10, w ∈ lw_tbl := fun w h => (goodIn_r (big := lw_tbl) wsX10 [75, 77, 79, 81, 83, 85, 87, 89, 91, 93] (by decide +kernel) (by decide +kernel) w h).1
set_option maxRecDepth 20000 in
theorem inL_X2 : ∀ w ∈ wsX20, w ∈ lw_tbl := fun w h => (goodIn_r (big := lw_tbl) wsX20 [251, 253, 255, 257, 259, 261] (by decide +kernel) (by decide +kernel) w h).1
