set_option maxRecDepth 20000 in
theorem ggL_law_L_isOrder_r1 : GoodIn wsL_law (Cond.code yL_isOrder cL_isOrder 8 (some .boolean) :: wsL_isOrder_r1) := goodIn_r _ [350, 3, 110, 111, 66, 112, 351, 352, 353, 2, 354, 13, 28, 172, 173, 174, 12, 175, 35, 36, 355, 181, 182, 183, 184] (by decide +kernel) (by decide +kernel)
set_option maxRecDepth 20000 in
theorem ggL_law_L_isOrder_r2 : GoodIn wsL_law wsL_isOrder_r2 := goodIn_r _ [185, 186, 196, 197, 198, 27, 199, 63, 200, 201, 202, 203, 62, 204, 205, 206, 207, 208, 209, 210, 211, 212, 213, 130] (by decide +kernel) (by decide +kernel)
set_option maxRecDepth 20000 in
theorem ggL_law_L_isOrder_r3 : GoodIn wsL_law wsL_isOrder_r3 := goodIn_r _ [131, 214, 215, 216, 217, 34, 40, 38, 218, 219, 220, 221, 222, 223, 224, 225, 226, 227, 228, 229, 230, 231, 356, 357] (by decide +kernel) (by decide +kernel)
set_option maxRecDepth 20000 in
theorem ggL_law_L_isOrder_r4 : GoodIn wsL_law wsL_isOrder_r4 := goodIn_r _ [358, 359, 163, 164, 165, 166, 167, 168, 169, 24, 170, 17, 171, 176, 177, 178, 179, 159, 143, 144, 145, 146, 122, 123] (by decide +kernel) (by decide +kernel)
set_option maxRecDepth 20000 in
theorem ggL_law_L_isOrder_r5 : GoodIn wsL_law wsL_isOrder_r5 := goodIn_r _ [124, 37, 39, 180, 187, 188, 189, 190, 191, 148, 149, 150, 192, 193, 194, 195, 288, 289, 290] (by decide +kernel) (by decide +kernel)
set_option maxRecDepth 20000 in
theorem ggL_law_L_isOrder_wsX50 : GoodIn wsL_law wsX50 := goodIn_sub inlX5 (by decide +kernel)
set_option maxRecDepth 20000 in
theorem ggL_law_L_isOrder_wsX20 : GoodIn wsL_law wsX20 := goodIn_sub inlX2 (by decide +kernel)
set_option maxRecDepth 20000 in
theorem ggL_law_L_isOrder_wsX40 : GoodIn wsL_law wsX40 := goodIn_sub inlX4 (by decide +kernel)
set_option maxRecDepth 20000 in
theorem ggL_law_L_isOrder_wsX30 : GoodIn wsL_law wsX30 := goodIn_sub inlX3 (by decide +kernel)
set_option maxRecDepth 20000 in
theorem ggL_law_L_isOrder_wsX10 : GoodIn wsL_law wsX10 := goodIn_sub inlX1 (by decide +kernel)
theorem ggL_law_L_isOrder : GoodIn wsL_law wsL_isOrder := (goodIn_ca (goodIn_ca (goodIn_ca (goodIn_ca (goodIn_ca (goodIn_ca ggL_law_L_isOrder_r1 (goodIn_app ggL_law_L_isOrder_r2 (goodIn_app ggL_law_L_isOrder_r3 (goodIn_app ggL_law_L_isOrder_r4 ggL_law_L_isOrder_r5)))) ggL_law_L_isOrder_wsX50) ggL_law_L_isOrder_wsX20) ggL_law_L_isOrder_wsX40) ggL_law_L_isOrder_wsX30) ggL_law_L_isOrder_wsX10)
set_option maxRecDepth 20000 in
theorem gL_law_L_isOrder : GoodIn wsL_law (va_wsS RL 100 yL_isOrder wsL_isOrder) := goodIn_app (goodIn_of _ (by decide +kernel)) ggL_law_L_isOrder
