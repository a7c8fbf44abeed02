set_option maxRecDepth 20000 in
theorem ggL_law_X5_abort : GoodIn wsL_law wsX5_abort := goodIn_r _ [336, 17, 13, 78, 79, 80, 16, 81, 50, 48, 82, 83, 84, 12, 85, 33, 34, 35, 36, 86, 87, 88, 89, 37, 38, 39, 40, 41, 42, 337, 338, 339, 340, 248, 118, 119, 120, 341, 173, 174, 175, 180, 181, 182, 183, 184, 185, 186, 96, 97, 98, 99, 47, 100, 101, 102, 103, 360, 361, 362, 363, 364, 365, 376, 377, 378, 366, 367, 368, 369, 370, 371, 372, 373, 374, 375] (by decide +kernel) (by decide +kernel)
set_option maxRecDepth 20000 in
theorem gL_law_X5_abort : GoodIn wsL_law (wsV RL 94 RX5 yX5_abort wsX5_abort) := goodIn_app (goodIn_of _ (by decide +kernel)) ggL_law_X5_abort
set_option maxRecDepth 20000 in
theorem ggL_law_X5_value : GoodIn wsL_law wsX5_value := goodIn_r _ [345, 13, 168, 295, 249, 2, 250, 346, 223, 224, 12, 225, 35, 36, 40, 38, 130, 131, 347, 257, 258, 259, 42, 248, 118, 119, 120, 360, 361, 362, 363, 364, 365, 366, 367, 368, 369, 370, 371, 372, 373, 374, 375] (by decide +kernel) (by decide +kernel)
set_option maxRecDepth 20000 in
theorem gL_law_X5_value : GoodIn wsL_law (wsV RL 97 RX5 yX5_value wsX5_value) := goodIn_app (goodIn_of _ (by decide +kernel)) ggL_law_X5_value
