set_option maxRecDepth 20000 in
theorem ggL_law_L_tells_r1 : GoodIn wsL_law (Cond.code yL_tells cL_tells 14 (some .boolean) :: wsL_tells_r1) := goodIn_r _ [106, 107, 108, 66, 109, 110, 111, 112, 113, 114, 115, 2, 116, 13, 117, 118, 119, 12, 120, 35, 121, 122, 123, 124, 36] (by decide +kernel) (by decide +kernel)
set_option maxRecDepth 20000 in
theorem ggL_law_L_tells_r2 : GoodIn wsL_law wsL_tells_r2 := goodIn_r _ [38, 37, 39, 40, 125, 126, 127, 128, 129, 130, 131, 132, 133, 134, 135, 136, 137, 138, 139, 140, 141, 142, 143, 144] (by decide +kernel) (by decide +kernel)
set_option maxRecDepth 20000 in
theorem ggL_law_L_tells_r3 : GoodIn wsL_law wsL_tells_r3 := goodIn_r _ [145, 146, 147, 148, 149, 150, 151, 152, 153, 154, 155, 156, 157, 158, 159, 160, 161, 162, 163, 164, 165, 166, 167, 168] (by decide +kernel) (by decide +kernel)
set_option maxRecDepth 20000 in
theorem ggL_law_L_tells_r4 : GoodIn wsL_law wsL_tells_r4 := goodIn_r _ [169, 28, 24, 170, 17, 171, 172, 173, 174, 175, 176, 177, 178, 179, 180, 181, 182, 183, 184, 185, 186, 187, 188, 189] (by decide +kernel) (by decide +kernel)
set_option maxRecDepth 20000 in
theorem ggL_law_L_tells_r5 : GoodIn wsL_law wsL_tells_r5 := goodIn_r _ [190, 191, 192, 193, 194, 195, 196, 197, 198, 27, 199, 63, 200, 201, 202, 203, 62, 204, 205, 206, 207, 208, 209, 210] (by decide +kernel) (by decide +kernel)
set_option maxRecDepth 20000 in
theorem ggL_law_L_tells_r6 : GoodIn wsL_law wsL_tells_r6 := goodIn_r _ [211, 212, 213, 214, 215, 216, 217, 34, 218, 219, 220, 221, 222, 223, 224, 225, 226, 227, 228, 229, 230, 231] (by decide +kernel) (by decide +kernel)
set_option maxRecDepth 20000 in
theorem ggL_law_L_tells_wsX50 : GoodIn wsL_law wsX50 := goodIn_sub inlX5 (by decide +kernel)
set_option maxRecDepth 20000 in
theorem ggL_law_L_tells_wsX20 : GoodIn wsL_law wsX20 := goodIn_sub inlX2 (by decide +kernel)
set_option maxRecDepth 20000 in
theorem ggL_law_L_tells_wsX30 : GoodIn wsL_law wsX30 := goodIn_sub inlX3 (by decide +kernel)
set_option maxRecDepth 20000 in
theorem ggL_law_L_tells_wsX10 : GoodIn wsL_law wsX10 := goodIn_sub inlX1 (by decide +kernel)
set_option maxRecDepth 20000 in
theorem ggL_law_L_tells_wsX40 : GoodIn wsL_law wsX40 := goodIn_sub inlX4 (by decide +kernel)
theorem ggL_law_L_tells : GoodIn wsL_law wsL_tells := (goodIn_ca (goodIn_ca (goodIn_ca (goodIn_ca (goodIn_ca (goodIn_ca ggL_law_L_tells_r1 (goodIn_app ggL_law_L_tells_r2 (goodIn_app ggL_law_L_tells_r3 (goodIn_app ggL_law_L_tells_r4 (goodIn_app ggL_law_L_tells_r5 ggL_law_L_tells_r6))))) ggL_law_L_tells_wsX50) ggL_law_L_tells_wsX20) ggL_law_L_tells_wsX30) ggL_law_L_tells_wsX10) ggL_law_L_tells_wsX40)
set_option maxRecDepth 20000 in
theorem gL_law_L_tells : GoodIn wsL_law (va_wsS RL 61 yL_tells wsL_tells) := goodIn_app (goodIn_of _ (by decide +kernel)) ggL_law_L_tells
