set_option maxRecDepth 20000 in
theorem ggL_law_X5_init : GoodIn wsL_law wsX5_init := goodIn_r _ [9, 10, 11, 12, 13, 14, 15, 16, 17, 18, 19, 20, 21, 22, 23, 24, 25, 26, 27, 28, 29, 30, 31, 32, 33, 34, 35, 36, 37, 38, 39, 40, 41, 42, 43, 44, 45, 46, 47, 48, 49, 50, 51, 52, 53, 54, 55, 56, 57, 58, 59, 60, 61, 62, 63, 64, 65, 66, 67, 743, 744, 745, 746, 747, 748, 749, 750, 751, 752, 721, 722, 723, 724, 725, 726, 753, 754, 755, 756, 757, 758, 759, 760, 761, 762, 763, 764, 765] (by decide +kernel) (by decide +kernel)
set_option maxRecDepth 20000 in
theorem gL_law_X5_init : GoodIn wsL_law (wsX5_init) := ggL_law_X5_init
set_option maxRecDepth 20000 in
theorem ggL_law_X6_init : GoodIn wsL_law wsX6_init := goodIn_r _ [70, 71, 11, 12, 39, 72, 73, 74, 22, 75, 60, 76, 77, 78, 79, 727, 728, 729, 730, 731, 732, 733, 734, 735, 736, 737, 738, 739, 740, 741, 742] (by decide +kernel) (by decide +kernel)
set_option maxRecDepth 20000 in
theorem gL_law_X6_init : GoodIn wsL_law (wsX6_init) := ggL_law_X6_init
set_option maxRecDepth 20000 in
theorem ggL_law_X5_rule : GoodIn wsL_law wsX5_rule := goodIn_r _ [83, 20, 16, 84, 85, 86, 19, 87, 54, 52, 88, 89, 90, 15, 91, 36, 37, 38, 40, 92, 93, 94, 95, 41, 42, 43, 44, 45, 46, 96, 97, 98, 99, 100, 2, 101, 102, 103, 104, 105, 51, 106, 107, 108, 109, 721, 722, 723, 724, 725, 726, 753, 754, 755, 743, 744, 745, 746, 747, 748, 749, 750, 751, 752] (by decide +kernel) (by decide +kernel)
set_option maxRecDepth 20000 in
theorem gL_law_X5_rule : GoodIn wsL_law (wsV RL 13 RX5 yX5_rule wsX5_rule) := goodIn_app (goodIn_of _ (by decide +kernel)) ggL_law_X5_rule
set_option maxRecDepth 20000 in
theorem ggL_law_X6_rule : GoodIn wsL_law wsX6_rule := goodIn_r _ [113, 72, 114, 115, 5, 116, 117, 118, 119, 120, 121, 73, 727, 728, 729, 730, 731, 732, 733, 734, 735, 736, 737, 738, 739, 740, 741, 742] (by decide +kernel) (by decide +kernel)
set_option maxRecDepth 20000 in
theorem gL_law_X6_rule : GoodIn wsL_law (wsV RL 17 RX6 yX6_rule wsX6_rule) := goodIn_app (goodIn_of _ (by decide +kernel)) ggL_law_X6_rule
set_option maxRecDepth 20000 in
theorem ggL_law_X5_begin : GoodIn wsL_law wsX5_begin := goodIn_r _ [125, 20, 16, 84, 85, 86, 19, 87, 54, 52, 88, 89, 90, 15, 91, 36, 37, 38, 40, 92, 93, 94, 95, 41, 42, 43, 44, 45, 46, 126, 127, 128, 129, 102, 103, 104, 105, 51, 106, 107, 108, 109, 721, 722, 723, 724, 725, 726, 753, 754, 755, 743, 744, 745, 746, 747, 748, 749, 750, 751, 752] (by decide +kernel) (by decide +kernel)
set_option maxRecDepth 20000 in
theorem gL_law_X5_begin : GoodIn wsL_law (wsV RL 18 RX5 yX5_begin wsX5_begin) := goodIn_app (goodIn_of _ (by decide +kernel)) ggL_law_X5_begin
set_option maxRecDepth 20000 in
theorem ggL_law_X6_begin : GoodIn wsL_law wsX6_begin := goodIn_r _ [133, 72, 117, 118, 119, 5, 120, 121, 73, 134, 135, 136, 137, 138, 139, 140, 141, 142, 143, 144, 145, 146, 147, 148, 149, 150, 151, 152, 153, 727, 728, 729, 730, 731, 732, 733, 734, 735, 736, 737, 738, 739, 740, 741, 742] (by decide +kernel) (by decide +kernel)
set_option maxRecDepth 20000 in
theorem gL_law_X6_begin : GoodIn wsL_law (wsV RL 22 RX6 yX6_begin wsX6_begin) := goodIn_app (goodIn_of _ (by decide +kernel)) ggL_law_X6_begin
set_option maxRecDepth 20000 in
theorem ggL_law_X5_read : GoodIn wsL_law wsX5_read := goodIn_r _ [157, 20, 16, 84, 85, 86, 19, 87, 54, 52, 88, 89, 90, 15, 91, 36, 37, 38, 40, 92, 93, 94, 95, 41, 42, 43, 44, 45, 46, 158, 159, 160, 161, 162, 163, 164, 165, 166, 2, 167, 168, 169, 170, 171, 172, 173, 174, 175, 176, 177, 178, 179, 180, 181, 102, 103, 104, 105, 51, 106, 107, 108, 109, 721, 722, 723, 724, 725, 726, 753, 754, 755, 743, 744, 745, 746, 747, 748, 749, 750, 751, 752] (by decide +kernel) (by decide +kernel)
set_option maxRecDepth 20000 in
theorem gL_law_X5_read : GoodIn wsL_law (wsV RL 23 RX5 yX5_read wsX5_read) := goodIn_app (goodIn_of _ (by decide +kernel)) ggL_law_X5_read
set_option maxRecDepth 20000 in
theorem ggL_law_X6_read : GoodIn wsL_law wsX6_read := goodIn_r _ [185, 186, 187, 188, 5, 189, 190, 191, 192, 193, 72, 194, 195, 196, 114, 115, 116, 142, 143, 144, 145, 146, 147, 148, 149, 117, 118, 119, 120, 121, 73, 197, 198, 199, 200, 201, 202, 203, 204, 205, 206, 207, 208, 209, 210, 211, 212, 150, 151, 152, 153, 727, 728, 729, 730, 731, 732, 733, 734, 735, 736, 737, 738, 739, 740, 741, 742] (by decide +kernel) (by decide +kernel)
set_option maxRecDepth 20000 in
theorem gL_law_X6_read : GoodIn wsL_law (wsV RL 27 RX6 yX6_read wsX6_read) := goodIn_app (goodIn_of _ (by decide +kernel)) ggL_law_X6_read
set_option maxRecDepth 20000 in
theorem ggL_law_X5_write : GoodIn wsL_law wsX5_write := goodIn_r _ [216, 20, 16, 84, 85, 86, 19, 87, 54, 52, 88, 89, 90, 15, 91, 36, 37, 38, 40, 92, 93, 94, 95, 41, 42, 43, 44, 45, 46, 217, 218, 219, 220, 162, 163, 164, 165, 166, 2, 167, 102, 103, 104, 105, 51, 106, 107, 108, 109, 721, 722, 723, 724, 725, 726, 753, 754, 755, 743, 744, 745, 746, 747, 748, 749, 750, 751, 752] (by decide +kernel) (by decide +kernel)
set_option maxRecDepth 20000 in
theorem gL_law_X5_write : GoodIn wsL_law (wsV RL 28 RX5 yX5_write wsX5_write) := goodIn_app (goodIn_of _ (by decide +kernel)) ggL_law_X5_write
set_option maxRecDepth 20000 in
theorem ggL_law_X6_write : GoodIn wsL_law wsX6_write := goodIn_r _ [224, 225, 226, 227, 5, 228, 190, 191, 192, 193, 72, 194, 195, 196, 114, 115, 116, 142, 143, 144, 145, 146, 147, 148, 149, 117, 118, 119, 120, 121, 73, 229, 230, 231, 232, 150, 151, 152, 153, 727, 728, 729, 730, 731, 732, 733, 734, 735, 736, 737, 738, 739, 740, 741, 742] (by decide +kernel) (by decide +kernel)
set_option maxRecDepth 20000 in
theorem gL_law_X6_write : GoodIn wsL_law (wsV RL 32 RX6 yX6_write wsX6_write) := goodIn_app (goodIn_of _ (by decide +kernel)) ggL_law_X6_write
set_option maxRecDepth 20000 in
theorem ggL_law_X5_commit : GoodIn wsL_law wsX5_commit := goodIn_r _ [236, 20, 16, 84, 85, 86, 19, 87, 54, 52, 88, 89, 90, 15, 91, 36, 37, 38, 40, 92, 93, 94, 95, 41, 42, 43, 44, 45, 46, 237, 238, 239, 240, 162, 163, 164, 165, 241, 242, 243, 244, 245, 246, 247, 248, 249, 250, 251, 252, 253, 254, 255, 256, 257, 258, 259, 168, 2, 169, 260, 261, 262, 263, 264, 265, 266, 267, 268, 269, 270, 271, 272, 273, 274, 275, 276, 277, 102, 103, 104, 105, 51, 106, 107, 108, 109, 721, 722, 723, 724, 725, 726, 753, 754, 755, 743, 744, 745, 746, 747, 748, 749, 750, 751, 752] (by decide +kernel) (by decide +kernel)
set_option maxRecDepth 20000 in
theorem gL_law_X5_commit : GoodIn wsL_law (wsV RL 33 RX5 yX5_commit wsX5_commit) := goodIn_app (goodIn_of _ (by decide +kernel)) ggL_law_X5_commit
set_option maxRecDepth 20000 in
theorem ggL_law_X6_commit : GoodIn wsL_law wsX6_commit := goodIn_r _ [281, 282, 283, 284, 5, 285, 190, 191, 192, 193, 72, 142, 143, 144, 145, 146, 147, 148, 149, 117, 118, 119, 120, 121, 73, 286, 287, 288, 289, 290, 291, 292, 293, 205, 206, 207, 208, 294, 295, 296, 297, 150, 151, 152, 153, 298, 299, 300, 301, 302, 303, 304, 305, 306, 307, 308, 309, 310, 311, 312, 313, 314, 315, 316, 317, 318, 319, 320, 321, 322, 323, 324, 325, 326, 327, 328, 727, 728, 729, 730, 731, 732, 733, 734, 735, 736, 737, 738, 739, 740, 741, 742] (by decide +kernel) (by decide +kernel)
set_option maxRecDepth 20000 in
theorem gL_law_X6_commit : GoodIn wsL_law (wsV RL 36 RX6 yX6_commit wsX6_commit) := goodIn_app (goodIn_of _ (by decide +kernel)) ggL_law_X6_commit
set_option maxRecDepth 20000 in
theorem ggL_law_X5_abort : GoodIn wsL_law wsX5_abort := goodIn_r _ [332, 20, 16, 84, 85, 86, 19, 87, 54, 52, 88, 89, 90, 15, 91, 36, 37, 38, 40, 92, 93, 94, 95, 41, 42, 43, 44, 45, 46, 333, 334, 335, 336, 162, 163, 164, 165, 337, 257, 258, 259, 338, 339, 340, 341, 342, 343, 344, 102, 103, 104, 105, 51, 106, 107, 108, 109, 721, 722, 723, 724, 725, 726, 753, 754, 755, 743, 744, 745, 746, 747, 748, 749, 750, 751, 752] (by decide +kernel) (by decide +kernel)
set_option maxRecDepth 20000 in
theorem gL_law_X5_abort : GoodIn wsL_law (wsV RL 37 RX5 yX5_abort wsX5_abort) := goodIn_app (goodIn_of _ (by decide +kernel)) ggL_law_X5_abort
set_option maxRecDepth 20000 in
theorem ggL_law_X6_abort : GoodIn wsL_law wsX6_abort := goodIn_r _ [348, 282, 283, 284, 5, 285, 190, 191, 192, 193, 72, 142, 143, 144, 145, 146, 147, 148, 149, 117, 118, 119, 120, 121, 73, 325, 326, 327, 328, 150, 151, 152, 153, 138, 139, 140, 141, 349, 350, 351, 727, 728, 729, 730, 731, 732, 733, 734, 735, 736, 737, 738, 739, 740, 741, 742] (by decide +kernel) (by decide +kernel)
set_option maxRecDepth 20000 in
theorem gL_law_X6_abort : GoodIn wsL_law (wsV RL 40 RX6 yX6_abort wsX6_abort) := goodIn_app (goodIn_of _ (by decide +kernel)) ggL_law_X6_abort
set_option maxRecDepth 20000 in
theorem ggL_law_X5_value : GoodIn wsL_law wsX5_value := goodIn_r _ [355, 16, 356, 357, 166, 2, 167, 358, 175, 176, 15, 177, 38, 40, 44, 42, 168, 169, 359, 179, 180, 181, 46, 162, 163, 164, 165, 721, 722, 723, 724, 725, 726, 743, 744, 745, 746, 747, 748, 749, 750, 751, 752] (by decide +kernel) (by decide +kernel)
set_option maxRecDepth 20000 in
theorem gL_law_X5_value : GoodIn wsL_law (wsV RL 41 RX5 yX5_value wsX5_value) := goodIn_app (goodIn_of _ (by decide +kernel)) ggL_law_X5_value
set_option maxRecDepth 20000 in
theorem ggL_law_X6_value : GoodIn wsL_law wsX6_value := goodIn_r _ [363, 72, 194, 195, 5, 196, 114, 115, 116, 209, 210, 211, 212, 142, 143, 144, 145, 146, 147, 148, 149, 205, 206, 207, 208, 727, 728, 729, 730, 731, 732, 733, 734, 735, 736, 737, 738, 739, 740, 741, 742] (by decide +kernel) (by decide +kernel)
set_option maxRecDepth 20000 in
theorem gL_law_X6_value : GoodIn wsL_law (wsV RL 44 RX6 yX6_value wsX6_value) := goodIn_app (goodIn_of _ (by decide +kernel)) ggL_law_X6_value
set_option maxRecDepth 20000 in
theorem ggL_law_X5_of : GoodIn wsL_law wsX5_of := goodIn_r _ [367, 16, 368, 369, 370, 371, 372, 373, 374, 163, 164, 15, 165, 38, 375, 269, 270, 271, 264, 265, 266, 267, 40, 42, 41, 43, 44, 376, 261, 262, 263, 377, 378, 379, 380, 381, 382, 383, 384, 385, 168, 2, 169, 721, 722, 723, 724, 725, 726, 743, 744, 745, 746, 747, 748, 749, 750, 751, 752] (by decide +kernel) (by decide +kernel)
set_option maxRecDepth 20000 in
theorem gL_law_X5_of : GoodIn wsL_law (wsV RL 45 RX5 yX5_of wsX5_of) := goodIn_app (goodIn_of _ (by decide +kernel)) ggL_law_X5_of
set_option maxRecDepth 20000 in
theorem ggL_law_X6_of : GoodIn wsL_law wsX6_of := goodIn_r _ [389, 190, 191, 192, 5, 193, 72, 146, 147, 148, 149, 390, 391, 392, 393, 309, 310, 311, 312, 313, 314, 315, 316, 142, 143, 144, 145, 317, 318, 319, 320, 394, 395, 396, 397, 398, 399, 400, 401, 402, 403, 404, 405, 727, 728, 729, 730, 731, 732, 733, 734, 735, 736, 737, 738, 739, 740, 741, 742] (by decide +kernel) (by decide +kernel)
set_option maxRecDepth 20000 in
theorem gL_law_X6_of : GoodIn wsL_law (wsV RL 48 RX6 yX6_of wsX6_of) := goodIn_app (goodIn_of _ (by decide +kernel)) ggL_law_X6_of
set_option maxRecDepth 20000 in
theorem ggL_law_X5_edge : GoodIn wsL_law wsX5_edge := goodIn_r _ [409, 16, 374, 163, 164, 15, 165, 38, 410, 265, 266, 267, 40, 42, 41, 43, 44, 721, 722, 723, 724, 725, 726, 743, 744, 745, 746, 747, 748, 749, 750, 751, 752] (by decide +kernel) (by decide +kernel)
set_option maxRecDepth 20000 in
theorem gL_law_X5_edge : GoodIn wsL_law (wsV RL 49 RX5 yX5_edge wsX5_edge) := goodIn_app (goodIn_of _ (by decide +kernel)) ggL_law_X5_edge
set_option maxRecDepth 20000 in
theorem ggL_law_X6_edge : GoodIn wsL_law wsX6_edge := goodIn_r _ [414, 190, 191, 192, 5, 193, 72, 309, 310, 311, 312, 146, 147, 148, 149, 313, 314, 315, 316, 142, 143, 144, 145, 317, 318, 319, 320, 727, 728, 729, 730, 731, 732, 733, 734, 735, 736, 737, 738, 739, 740, 741, 742] (by decide +kernel) (by decide +kernel)
set_option maxRecDepth 20000 in
theorem gL_law_X6_edge : GoodIn wsL_law (wsV RL 52 RX6 yX6_edge wsX6_edge) := goodIn_app (goodIn_of _ (by decide +kernel)) ggL_law_X6_edge
set_option maxRecDepth 20000 in
theorem ggL_law_X5_over : GoodIn wsL_law wsX5_over := goodIn_r _ [418, 16, 374, 163, 164, 15, 165, 38, 410, 265, 266, 267, 40, 42, 41, 43, 44, 419, 168, 2, 169, 721, 722, 723, 724, 725, 726, 743, 744, 745, 746, 747, 748, 749, 750, 751, 752] (by decide +kernel) (by decide +kernel)
set_option maxRecDepth 20000 in
theorem gL_law_X5_over : GoodIn wsL_law (wsV RL 53 RX5 yX5_over wsX5_over) := goodIn_app (goodIn_of _ (by decide +kernel)) ggL_law_X5_over
set_option maxRecDepth 20000 in
theorem ggL_law_X6_over : GoodIn wsL_law wsX6_over := goodIn_r _ [423, 190, 191, 192, 5, 193, 72, 309, 310, 311, 312, 146, 147, 148, 149, 313, 314, 315, 316, 142, 143, 144, 145, 317, 318, 319, 320, 349, 350, 351, 727, 728, 729, 730, 731, 732, 733, 734, 735, 736, 737, 738, 739, 740, 741, 742] (by decide +kernel) (by decide +kernel)
set_option maxRecDepth 20000 in
theorem gL_law_X6_over : GoodIn wsL_law (wsV RL 56 RX6 yX6_over wsX6_over) := goodIn_app (goodIn_of _ (by decide +kernel)) ggL_law_X6_over
set_option maxRecDepth 20000 in
theorem ggL_law_X5_count : GoodIn wsL_law wsX5_count := goodIn_r _ [427, 16, 428, 356, 429, 31, 27, 430, 20, 431, 432, 257, 258, 15, 259, 38, 40, 433, 434, 435, 436, 385, 269, 270, 271, 264, 265, 266, 267, 42, 41, 43, 44, 338, 339, 340, 341, 342, 343, 344, 437, 438, 439, 440, 441, 261, 262, 263, 442, 443, 444, 445, 446, 447, 448, 30, 449, 67, 450, 451, 452, 453, 66, 454, 455, 456, 457, 458, 459, 460, 461, 462, 463, 168, 2, 169, 464, 465, 466, 467, 37, 468, 469, 470, 471, 472, 175, 176, 177, 473, 474, 475, 476, 477, 478, 721, 722, 723, 724, 725, 726, 743, 744, 745, 746, 747, 748, 749, 750, 751, 752, 756, 757, 758, 759, 760, 761, 762, 763, 753, 754, 755, 764, 765] (by decide +kernel) (by decide +kernel)
set_option maxRecDepth 20000 in
theorem gL_law_X5_count : GoodIn wsL_law (wsV RL 57 RX5 yX5_count wsX5_count) := goodIn_app (goodIn_of _ (by decide +kernel)) ggL_law_X5_count
set_option maxRecDepth 20000 in
theorem ggL_law_X6_count : GoodIn wsL_law wsX6_count := goodIn_r _ [482, 72, 483, 121, 138, 139, 140, 5, 141, 142, 143, 144, 145, 146, 147, 148, 149, 484, 485, 486, 487, 390, 391, 392, 393, 309, 310, 311, 312, 313, 314, 315, 316, 317, 318, 319, 320, 349, 350, 351, 488, 489, 490, 491, 394, 395, 396, 397, 492, 493, 494, 495, 496, 497, 498, 499, 500, 501, 502, 503, 77, 78, 504, 505, 506, 507, 205, 206, 207, 208, 294, 295, 296, 297, 508, 509, 510, 511, 209, 210, 211, 212, 727, 728, 729, 730, 731, 732, 733, 734, 735, 736, 737, 738, 739, 740, 741, 742] (by decide +kernel) (by decide +kernel)
set_option maxRecDepth 20000 in
theorem gL_law_X6_count : GoodIn wsL_law (wsV RL 60 RX6 yX6_count wsX6_count) := goodIn_app (goodIn_of _ (by decide +kernel)) ggL_law_X6_count
set_option maxRecDepth 20000 in
theorem ggL_law_X5_order : GoodIn wsL_law wsX5_order := goodIn_r _ [515, 16, 31, 432, 257, 258, 15, 259, 38, 40, 516, 339, 340, 341, 342, 343, 344, 446, 447, 448, 30, 449, 67, 450, 451, 452, 453, 66, 454, 455, 456, 457, 458, 459, 460, 461, 462, 463, 168, 2, 169, 464, 465, 466, 467, 37, 44, 42, 468, 469, 470, 471, 472, 175, 176, 177, 473, 474, 475, 476, 477, 478, 517, 518, 519, 520, 721, 722, 723, 724, 725, 726, 743, 744, 745, 746, 747, 748, 749, 750, 751, 752, 764, 765] (by decide +kernel) (by decide +kernel)
set_option maxRecDepth 20000 in
theorem gL_law_X5_order : GoodIn wsL_law (wsV RL 61 RX5 yX5_order wsX5_order) := goodIn_app (goodIn_of _ (by decide +kernel)) ggL_law_X5_order
set_option maxRecDepth 20000 in
theorem ggL_law_X6_order : GoodIn wsL_law wsX6_order := goodIn_r _ [524, 78, 138, 139, 140, 5, 141, 72, 142, 143, 144, 145, 146, 147, 148, 149, 349, 350, 351, 496, 497, 498, 499, 500, 501, 502, 503, 77, 504, 505, 506, 507, 205, 206, 207, 208, 294, 295, 296, 297, 508, 509, 510, 511, 209, 210, 211, 212, 727, 728, 729, 730, 731, 732, 733, 734, 735, 736, 737, 738, 739, 740, 741, 742] (by decide +kernel) (by decide +kernel)
set_option maxRecDepth 20000 in
theorem gL_law_X6_order : GoodIn wsL_law (wsV RL 64 RX6 yX6_order wsX6_order) := goodIn_app (goodIn_of _ (by decide +kernel)) ggL_law_X6_order
set_option maxRecDepth 20000 in
theorem ggL_law_X5_sees : GoodIn wsL_law wsX5_sees := goodIn_r _ [528, 16, 374, 163, 164, 15, 165, 38, 357, 166, 2, 167, 529, 171, 172, 173, 44, 41, 168, 169, 174, 175, 176, 177, 40, 42, 721, 722, 723, 724, 725, 726, 743, 744, 745, 746, 747, 748, 749, 750, 751, 752] (by decide +kernel) (by decide +kernel)
set_option maxRecDepth 20000 in
theorem gL_law_X5_sees : GoodIn wsL_law (wsV RL 65 RX5 yX5_sees wsX5_sees) := goodIn_app (goodIn_of _ (by decide +kernel)) ggL_law_X5_sees
set_option maxRecDepth 20000 in
theorem ggL_law_X6_sees : GoodIn wsL_law wsX6_sees := goodIn_r _ [533, 190, 191, 192, 5, 193, 72, 194, 195, 196, 114, 115, 116, 201, 202, 203, 204, 205, 206, 207, 208, 146, 147, 148, 149, 209, 210, 211, 212, 142, 143, 144, 145, 727, 728, 729, 730, 731, 732, 733, 734, 735, 736, 737, 738, 739, 740, 741, 742] (by decide +kernel) (by decide +kernel)
set_option maxRecDepth 20000 in
theorem gL_law_X6_sees : GoodIn wsL_law (wsV RL 68 RX6 yX6_sees wsX6_sees) := goodIn_app (goodIn_of _ (by decide +kernel)) ggL_law_X6_sees
set_option maxRecDepth 20000 in
theorem ggL_law_X5_would : GoodIn wsL_law wsX5_would := goodIn_r _ [537, 16, 368, 429, 374, 163, 164, 15, 165, 38, 538, 242, 243, 244, 245, 246, 247, 248, 249, 250, 251, 252, 253, 254, 255, 256, 257, 258, 259, 40, 168, 2, 169, 260, 261, 262, 263, 264, 265, 266, 267, 42, 41, 43, 44, 268, 269, 270, 271, 272, 273, 274, 275, 276, 277, 721, 722, 723, 724, 725, 726, 743, 744, 745, 746, 747, 748, 749, 750, 751, 752] (by decide +kernel) (by decide +kernel)
set_option maxRecDepth 20000 in
theorem gL_law_X5_would : GoodIn wsL_law (wsV RL 69 RX5 yX5_would wsX5_would) := goodIn_app (goodIn_of _ (by decide +kernel)) ggL_law_X5_would
set_option maxRecDepth 20000 in
theorem ggL_law_X6_would : GoodIn wsL_law wsX6_would := goodIn_r _ [542, 72, 282, 283, 284, 5, 285, 190, 191, 192, 193, 142, 143, 144, 145, 146, 147, 148, 149, 290, 291, 292, 293, 205, 206, 207, 208, 294, 295, 296, 297, 150, 151, 152, 153, 298, 299, 300, 301, 302, 303, 304, 305, 306, 307, 308, 309, 310, 311, 312, 313, 314, 315, 316, 317, 318, 319, 320, 321, 322, 323, 324, 727, 728, 729, 730, 731, 732, 733, 734, 735, 736, 737, 738, 739, 740, 741, 742] (by decide +kernel) (by decide +kernel)
set_option maxRecDepth 20000 in
theorem gL_law_X6_would : GoodIn wsL_law (wsV RL 72 RX6 yX6_would wsX6_would) := goodIn_app (goodIn_of _ (by decide +kernel)) ggL_law_X6_would
set_option maxRecDepth 20000 in
theorem ggL_law_X5_triple : GoodIn wsL_law wsX5_triple := goodIn_r _ [546, 16, 368, 429, 374, 163, 164, 15, 165, 38, 538, 242, 243, 244, 245, 246, 247, 248, 249, 250, 251, 252, 253, 254, 255, 256, 257, 258, 259, 40, 168, 2, 169, 260, 261, 262, 263, 264, 265, 266, 267, 42, 41, 43, 44, 268, 269, 270, 271, 272, 273, 274, 275, 276, 277, 547, 548, 549, 550, 721, 722, 723, 724, 725, 726, 743, 744, 745, 746, 747, 748, 749, 750, 751, 752] (by decide +kernel) (by decide +kernel)
set_option maxRecDepth 20000 in
theorem gL_law_X5_triple : GoodIn wsL_law (wsV RL 73 RX5 yX5_triple wsX5_triple) := goodIn_app (goodIn_of _ (by decide +kernel)) ggL_law_X5_triple
set_option maxRecDepth 20000 in
theorem ggL_law_X6_triple : GoodIn wsL_law wsX6_triple := goodIn_r _ [554, 72, 302, 303, 304, 190, 191, 192, 5, 193, 114, 115, 116, 142, 143, 144, 145, 146, 147, 148, 149, 290, 291, 292, 293, 205, 206, 207, 208, 294, 295, 296, 297, 150, 151, 152, 153, 298, 299, 300, 301, 305, 306, 307, 308, 309, 310, 311, 312, 313, 314, 315, 316, 317, 318, 319, 320, 321, 322, 323, 324, 727, 728, 729, 730, 731, 732, 733, 734, 735, 736, 737, 738, 739, 740, 741, 742] (by decide +kernel) (by decide +kernel)
set_option maxRecDepth 20000 in
theorem gL_law_X6_triple : GoodIn wsL_law (wsV RL 76 RX6 yX6_triple wsX6_triple) := goodIn_app (goodIn_of _ (by decide +kernel)) ggL_law_X6_triple
set_option maxRecDepth 20000 in
theorem ggL_law_X5_doomed : GoodIn wsL_law wsX5_doomed := goodIn_r _ [558, 16, 559, 100, 2, 101, 432, 257, 258, 15, 259, 38, 40, 419, 168, 169, 538, 242, 243, 244, 245, 246, 247, 248, 249, 250, 251, 252, 253, 254, 255, 256, 260, 261, 262, 263, 264, 265, 266, 267, 42, 41, 43, 44, 268, 269, 270, 271, 272, 273, 274, 275, 276, 277, 721, 722, 723, 724, 725, 726, 743, 744, 745, 746, 747, 748, 749, 750, 751, 752] (by decide +kernel) (by decide +kernel)
set_option maxRecDepth 20000 in
theorem gL_law_X5_doomed : GoodIn wsL_law (wsV RL 77 RX5 yX5_doomed wsX5_doomed) := goodIn_app (goodIn_of _ (by decide +kernel)) ggL_law_X5_doomed
set_option maxRecDepth 20000 in
theorem ggL_law_X6_doomed : GoodIn wsL_law wsX6_doomed := goodIn_r _ [563, 72, 114, 115, 5, 116, 142, 143, 144, 145, 146, 147, 148, 149, 290, 291, 292, 293, 205, 206, 207, 208, 294, 295, 296, 297, 150, 151, 152, 153, 298, 299, 300, 301, 302, 303, 304, 305, 306, 307, 308, 309, 310, 311, 312, 313, 314, 315, 316, 317, 318, 319, 320, 321, 322, 323, 324, 727, 728, 729, 730, 731, 732, 733, 734, 735, 736, 737, 738, 739, 740, 741, 742] (by decide +kernel) (by decide +kernel)
set_option maxRecDepth 20000 in
theorem gL_law_X6_doomed : GoodIn wsL_law (wsV RL 80 RX6 yX6_doomed wsX6_doomed) := goodIn_app (goodIn_of _ (by decide +kernel)) ggL_law_X6_doomed
set_option maxRecDepth 20000 in
theorem ggL_law_X5_put : GoodIn wsL_law wsX5_put := goodIn_r _ [567, 27, 568, 569, 570, 26, 571, 572, 573, 574, 575, 61, 721, 722, 723, 724, 725, 726, 756, 757, 758, 759, 760, 761, 762, 763] (by decide +kernel) (by decide +kernel)
set_option maxRecDepth 20000 in
theorem gL_law_X5_put : GoodIn wsL_law (wsV RL 83 RX5 yX5_put wsX5_put) := goodIn_app (goodIn_of _ (by decide +kernel)) ggL_law_X5_put
set_option maxRecDepth 20000 in
theorem ggL_law_X6_put : GoodIn wsL_law wsX6_put := goodIn_r _ [579, 580, 483, 76, 114, 115, 5, 116, 727, 728, 729, 730, 731, 732, 733, 734, 735, 736, 737, 738, 739, 740, 741, 742] (by decide +kernel) (by decide +kernel)
set_option maxRecDepth 20000 in
theorem gL_law_X6_put : GoodIn wsL_law (wsV RL 87 RX6 yX6_put wsX6_put) := goodIn_app (goodIn_of _ (by decide +kernel)) ggL_law_X6_put
set_option maxRecDepth 20000 in
theorem ggL_law_X5_wipe : GoodIn wsL_law wsX5_wipe := goodIn_r _ [584, 27, 585, 586, 587, 26, 588, 575, 721, 722, 723, 724, 725, 726, 756, 757, 758, 759, 760, 761, 762, 763] (by decide +kernel) (by decide +kernel)
set_option maxRecDepth 20000 in
theorem gL_law_X5_wipe : GoodIn wsL_law (wsV RL 88 RX5 yX5_wipe wsX5_wipe) := goodIn_app (goodIn_of _ (by decide +kernel)) ggL_law_X5_wipe
set_option maxRecDepth 20000 in
theorem ggL_law_X6_wipe : GoodIn wsL_law wsX6_wipe := goodIn_r _ [592, 483, 727, 728, 729, 730, 731, 732, 733, 734, 735, 736, 737, 738, 739, 740, 741, 742] (by decide +kernel) (by decide +kernel)
set_option maxRecDepth 20000 in
theorem gL_law_X6_wipe : GoodIn wsL_law (wsV RL 91 RX6 yX6_wipe wsX6_wipe) := goodIn_app (goodIn_of _ (by decide +kernel)) ggL_law_X6_wipe
set_option maxRecDepth 20000 in
theorem ggL_law_X5_fault : GoodIn wsL_law wsX5_fault := goodIn_r _ [596, 27, 597, 598, 599, 26, 600, 601, 575, 602, 603, 604, 605, 606, 607, 608, 609, 61, 610, 611, 612, 613, 614, 615, 616, 617, 618, 619, 620, 621, 622, 623, 624, 625, 626, 627, 628, 629, 630, 631, 632, 633, 634, 635, 636, 637, 638, 721, 722, 723, 724, 725, 726, 756, 757, 758, 759, 760, 761, 762, 763] (by decide +kernel) (by decide +kernel)
set_option maxRecDepth 20000 in
theorem gL_law_X5_fault : GoodIn wsL_law (wsV RL 92 RX5 yX5_fault wsX5_fault) := goodIn_app (goodIn_of _ (by decide +kernel)) ggL_law_X5_fault
set_option maxRecDepth 20000 in
theorem ggL_law_X6_fault : GoodIn wsL_law wsX6_fault := goodIn_r _ [642, 643, 644, 645, 5, 646, 647, 648, 649, 483, 650, 651, 652, 653, 79, 654, 655, 656, 657, 76, 658, 659, 660, 661, 662, 663, 664, 665, 114, 115, 116, 727, 728, 729, 730, 731, 732, 733, 734, 735, 736, 737, 738, 739, 740, 741, 742] (by decide +kernel) (by decide +kernel)
set_option maxRecDepth 20000 in
theorem gL_law_X6_fault : GoodIn wsL_law (wsV RL 95 RX6 yX6_fault wsX6_fault) := goodIn_app (goodIn_of _ (by decide +kernel)) ggL_law_X6_fault
set_option maxRecDepth 20000 in
theorem ggL_law_X5_carryOut : GoodIn wsL_law wsX5_carryOut := goodIn_r _ [669, 27, 20, 16, 597, 598, 599, 26, 600, 601, 575, 602, 603, 604, 605, 606, 607, 608, 609, 61, 610, 611, 612, 613, 614, 615, 616, 617, 618, 619, 620, 621, 622, 623, 624, 625, 626, 627, 628, 629, 630, 631, 632, 633, 634, 635, 636, 637, 638, 84, 85, 86, 19, 87, 54, 52, 88, 89, 90, 15, 91, 36, 37, 38, 40, 92, 93, 94, 95, 41, 42, 43, 44, 45, 46, 670, 671, 672, 673, 674, 2, 675, 676, 677, 678, 679, 126, 127, 128, 129, 158, 159, 160, 161, 162, 163, 164, 165, 166, 167, 168, 169, 170, 171, 172, 173, 174, 175, 176, 177, 178, 179, 180, 181, 217, 218, 219, 220, 237, 238, 239, 240, 241, 242, 243, 244, 245, 246, 247, 248, 249, 250, 251, 252, 253, 254, 255, 256, 257, 258, 259, 260, 261, 262, 263, 264, 265, 266, 267, 268, 269, 270, 271, 272, 273, 274, 275, 276, 277, 333, 334, 335, 336, 337, 338, 339, 340, 341, 342, 343, 344, 680, 585, 586, 587, 588, 102, 103, 104, 105, 51, 106, 107, 108, 109, 721, 722, 723, 724, 725, 726, 756, 757, 758, 759, 760, 761, 762, 763, 753, 754, 755, 743, 744, 745, 746, 747, 748, 749, 750, 751, 752] (by decide +kernel) (by decide +kernel)
set_option maxRecDepth 20000 in
theorem gL_law_X5_carryOut : GoodIn wsL_law (wsV RL 96 RX5 yX5_carryOut wsX5_carryOut) := goodIn_app (goodIn_of _ (by decide +kernel)) ggL_law_X5_carryOut
set_option maxRecDepth 20000 in
theorem ggL_law_X6_carryOut : GoodIn wsL_law wsX6_carryOut := goodIn_r _ [684, 647, 483, 643, 644, 645, 5, 646, 648, 649, 650, 651, 652, 653, 79, 654, 655, 656, 657, 76, 658, 659, 660, 661, 662, 663, 664, 665, 114, 115, 116, 117, 118, 119, 120, 121, 73, 72, 685, 686, 687, 688, 134, 135, 136, 137, 138, 139, 140, 141, 142, 143, 144, 145, 146, 147, 148, 149, 150, 151, 152, 153, 186, 187, 188, 189, 190, 191, 192, 193, 194, 195, 196, 197, 198, 199, 200, 201, 202, 203, 204, 205, 206, 207, 208, 209, 210, 211, 212, 225, 226, 227, 228, 229, 230, 231, 232, 282, 283, 284, 285, 286, 287, 288, 289, 290, 291, 292, 293, 294, 295, 296, 297, 298, 299, 300, 301, 302, 303, 304, 305, 306, 307, 308, 309, 310, 311, 312, 313, 314, 315, 316, 317, 318, 319, 320, 321, 322, 323, 324, 325, 326, 327, 328, 727, 728, 729, 730, 731, 732, 733, 734, 735, 736, 737, 738, 739, 740, 741, 742] (by decide +kernel) (by decide +kernel)
set_option maxRecDepth 20000 in
theorem gL_law_X6_carryOut : GoodIn wsL_law (wsV RL 99 RX6 yX6_carryOut wsX6_carryOut) := goodIn_app (goodIn_of _ (by decide +kernel)) ggL_law_X6_carryOut
set_option maxRecDepth 20000 in
theorem ggL_law_X5_undo : GoodIn wsL_law wsX5_undo := goodIn_r _ [692, 20, 16, 693, 694, 695, 19, 696, 51, 52, 54, 88, 89, 90, 15, 91, 36, 37, 38, 40, 92, 93, 94, 95, 41, 42, 43, 44, 45, 46, 721, 722, 723, 724, 725, 726, 753, 754, 755, 743, 744, 745, 746, 747, 748, 749, 750, 751, 752] (by decide +kernel) (by decide +kernel)
set_option maxRecDepth 20000 in
theorem gL_law_X5_undo : GoodIn wsL_law (wsV RL 100 RX5 yX5_undo wsX5_undo) := goodIn_app (goodIn_of _ (by decide +kernel)) ggL_law_X5_undo
set_option maxRecDepth 20000 in
theorem ggL_law_X6_undo : GoodIn wsL_law wsX6_undo := goodIn_r _ [700, 121, 72, 73, 727, 728, 729, 730, 731, 732, 733, 734, 735, 736, 737, 738, 739, 740, 741, 742] (by decide +kernel) (by decide +kernel)
set_option maxRecDepth 20000 in
theorem gL_law_X6_undo : GoodIn wsL_law (wsV RL 103 RX6 yX6_undo wsX6_undo) := goodIn_app (goodIn_of _ (by decide +kernel)) ggL_law_X6_undo
set_option maxRecDepth 20000 in
theorem ggL_law_X5_save : GoodIn wsL_law wsX5_save := goodIn_r _ [704, 21, 16, 23, 428, 705, 706, 2, 707, 708, 89, 90, 15, 91, 36, 37, 38, 40, 92, 93, 94, 95, 41, 42, 43, 44, 45, 46, 721, 722, 723, 724, 725, 726, 743, 744, 745, 746, 747, 748, 749, 750, 751, 752] (by decide +kernel) (by decide +kernel)
set_option maxRecDepth 20000 in
theorem gL_law_X5_save : GoodIn wsL_law (wsV RL 104 RX5 yX5_save wsX5_save) := goodIn_app (goodIn_of _ (by decide +kernel)) ggL_law_X5_save
set_option maxRecDepth 20000 in
theorem ggL_law_X6_save : GoodIn wsL_law wsX6_save := goodIn_r _ [712, 75, 74, 72, 114, 115, 5, 116, 727, 728, 729, 730, 731, 732, 733, 734, 735, 736, 737, 738, 739, 740, 741, 742] (by decide +kernel) (by decide +kernel)
set_option maxRecDepth 20000 in
theorem gL_law_X6_save : GoodIn wsL_law (wsV RL 107 RX6 yX6_save wsX6_save) := goodIn_app (goodIn_of _ (by decide +kernel)) ggL_law_X6_save
set_option maxRecDepth 20000 in
theorem ggL_law_X5_restore : GoodIn wsL_law wsX5_restore := goodIn_r _ [716, 23, 20, 16, 21, 428, 705, 706, 2, 707, 84, 85, 86, 19, 87, 54, 52, 88, 89, 90, 15, 91, 36, 37, 38, 40, 92, 93, 94, 95, 41, 42, 43, 44, 45, 46, 708, 102, 103, 104, 105, 51, 106, 107, 108, 109, 721, 722, 723, 724, 725, 726, 743, 744, 745, 746, 747, 748, 749, 750, 751, 752, 753, 754, 755] (by decide +kernel) (by decide +kernel)
set_option maxRecDepth 20000 in
theorem gL_law_X5_restore : GoodIn wsL_law (wsV RL 108 RX5 yX5_restore wsX5_restore) := goodIn_app (goodIn_of _ (by decide +kernel)) ggL_law_X5_restore
set_option maxRecDepth 20000 in
theorem ggL_law_X6_restore : GoodIn wsL_law wsX6_restore := goodIn_r _ [720, 75, 72, 74, 114, 115, 5, 116, 117, 118, 119, 120, 121, 73, 727, 728, 729, 730, 731, 732, 733, 734, 735, 736, 737, 738, 739, 740, 741, 742] (by decide +kernel) (by decide +kernel)
set_option maxRecDepth 20000 in
theorem gL_law_X6_restore : GoodIn wsL_law (wsV RL 111 RX6 yX6_restore wsX6_restore) := goodIn_app (goodIn_of _ (by decide +kernel)) ggL_law_X6_restore
