set_option maxRecDepth 20000 in
theorem ggL_law_X5_begin : GoodIn wsL_law wsX5_begin := goodIn_r _ [235, 17, 13, 78, 79, 80, 16, 81, 50, 48, 82, 83, 84, 12, 85, 33, 34, 35, 36, 86, 87, 88, 89, 37, 38, 39, 40, 41, 42, 236, 237, 238, 239, 96, 97, 98, 99, 47, 100, 101, 102, 103, 360, 361, 362, 363, 364, 365, 376, 377, 378, 366, 367, 368, 369, 370, 371, 372, 373, 374, 375] (by decide +kernel) (by decide +kernel)
set_option maxRecDepth 20000 in
theorem gL_law_X5_begin : GoodIn wsL_law (wsV RL 65 RX5 yX5_begin wsX5_begin) := goodIn_app (goodIn_of _ (by decide +kernel)) ggL_law_X5_begin
set_option maxRecDepth 20000 in
theorem ggL_law_X5_read : GoodIn wsL_law wsX5_read := goodIn_r _ [243, 17, 13, 78, 79, 80, 16, 81, 50, 48, 82, 83, 84, 12, 85, 33, 34, 35, 36, 86, 87, 88, 89, 37, 38, 39, 40, 41, 42, 244, 245, 246, 247, 248, 118, 119, 120, 249, 2, 250, 130, 131, 251, 252, 253, 254, 255, 223, 224, 225, 256, 257, 258, 259, 96, 97, 98, 99, 47, 100, 101, 102, 103, 360, 361, 362, 363, 364, 365, 376, 377, 378, 366, 367, 368, 369, 370, 371, 372, 373, 374, 375] (by decide +kernel) (by decide +kernel)
set_option maxRecDepth 20000 in
theorem gL_law_X5_read : GoodIn wsL_law (wsV RL 69 RX5 yX5_read wsX5_read) := goodIn_app (goodIn_of _ (by decide +kernel)) ggL_law_X5_read
