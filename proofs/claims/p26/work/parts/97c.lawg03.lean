set_option maxRecDepth 20000 in
theorem ggL_law_X5_write : GoodIn wsL_law wsX5_write := goodIn_r _ [300, 17, 13, 78, 79, 80, 16, 81, 50, 48, 82, 83, 84, 12, 85, 33, 34, 35, 36, 86, 87, 88, 89, 37, 38, 39, 40, 41, 42, 301, 302, 303, 304, 248, 118, 119, 120, 249, 2, 250, 96, 97, 98, 99, 47, 100, 101, 102, 103, 360, 361, 362, 363, 364, 365, 376, 377, 378, 366, 367, 368, 369, 370, 371, 372, 373, 374, 375] (by decide +kernel) (by decide +kernel)
set_option maxRecDepth 20000 in
theorem gL_law_X5_write : GoodIn wsL_law (wsV RL 78 RX5 yX5_write wsX5_write) := goodIn_app (goodIn_of _ (by decide +kernel)) ggL_law_X5_write
set_option maxRecDepth 20000 in
theorem ggL_law_L_reason : GoodIn wsL_law wsL_reason := goodIn_r _ [307, 110, 111, 66, 112, 107, 108, 109, 308, 309, 310] (by decide +kernel) (by decide +kernel)
set_option maxRecDepth 20000 in
theorem gL_law_L_reason : GoodIn wsL_law (va_wsS RL 82 yL_reason wsL_reason) := goodIn_app (goodIn_of _ (by decide +kernel)) ggL_law_L_reason
set_option maxRecDepth 20000 in
theorem ggL_law_X5_doomed : GoodIn wsL_law wsX5_doomed := goodIn_r _ [314, 13, 315, 94, 2, 95, 172, 173, 174, 12, 175, 35, 36, 129, 130, 131, 264, 265, 266, 267, 268, 269, 270, 271, 272, 273, 274, 275, 276, 277, 278, 279, 280, 148, 149, 150, 146, 122, 123, 124, 38, 37, 39, 40, 281, 143, 144, 145, 282, 283, 284, 285, 286, 287, 360, 361, 362, 363, 364, 365, 366, 367, 368, 369, 370, 371, 372, 373, 374, 375] (by decide +kernel) (by decide +kernel)
set_option maxRecDepth 20000 in
theorem gL_law_X5_doomed : GoodIn wsL_law (wsV RL 85 RX5 yX5_doomed wsX5_doomed) := goodIn_app (goodIn_of _ (by decide +kernel)) ggL_law_X5_doomed
