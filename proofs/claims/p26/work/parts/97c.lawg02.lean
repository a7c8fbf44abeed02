set_option maxRecDepth 20000 in
theorem ggL_law_X5_would : GoodIn wsL_law wsX5_would := goodIn_r _ [263, 13, 136, 169, 117, 118, 119, 12, 120, 35, 264, 265, 266, 267, 268, 269, 270, 271, 272, 273, 274, 275, 276, 277, 278, 279, 173, 174, 175, 36, 130, 2, 131, 280, 148, 149, 150, 146, 122, 123, 124, 38, 37, 39, 40, 281, 143, 144, 145, 282, 283, 284, 285, 286, 287, 360, 361, 362, 363, 364, 365, 366, 367, 368, 369, 370, 371, 372, 373, 374, 375] (by decide +kernel) (by decide +kernel)
set_option maxRecDepth 20000 in
theorem gL_law_X5_would : GoodIn wsL_law (wsV RL 72 RX5 yX5_would wsX5_would) := goodIn_app (goodIn_of _ (by decide +kernel)) ggL_law_X5_would
set_option maxRecDepth 20000 in
theorem ggL_law_L_writer : GoodIn wsL_law wsL_writer := goodIn_r _ [290, 110, 111, 66, 112] (by decide +kernel) (by decide +kernel)
set_option maxRecDepth 20000 in
theorem gL_law_L_writer : GoodIn wsL_law (va_wsS RL 47 yL_writer wsL_writer) := goodIn_app (goodIn_of _ (by decide +kernel)) ggL_law_L_writer
set_option maxRecDepth 20000 in
theorem ggL_law_X5_sees : GoodIn wsL_law wsX5_sees := goodIn_r _ [294, 13, 117, 118, 119, 12, 120, 35, 295, 249, 2, 250, 296, 252, 253, 254, 40, 37, 130, 131, 255, 223, 224, 225, 36, 38, 360, 361, 362, 363, 364, 365, 366, 367, 368, 369, 370, 371, 372, 373, 374, 375] (by decide +kernel) (by decide +kernel)
set_option maxRecDepth 20000 in
theorem gL_law_X5_sees : GoodIn wsL_law (wsV RL 75 RX5 yX5_sees wsX5_sees) := goodIn_app (goodIn_of _ (by decide +kernel)) ggL_law_X5_sees
