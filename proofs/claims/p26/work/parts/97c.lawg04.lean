set_option maxRecDepth 20000 in
theorem ggL_law_X5_triple : GoodIn wsL_law wsX5_triple := goodIn_r _ [319, 13, 136, 169, 117, 118, 119, 12, 120, 35, 264, 265, 266, 267, 268, 269, 270, 271, 272, 273, 274, 275, 276, 277, 278, 279, 173, 174, 175, 36, 130, 2, 131, 280, 148, 149, 150, 146, 122, 123, 124, 38, 37, 39, 40, 281, 143, 144, 145, 282, 283, 284, 285, 286, 287, 320, 321, 322, 323, 360, 361, 362, 363, 364, 365, 366, 367, 368, 369, 370, 371, 372, 373, 374, 375] (by decide +kernel) (by decide +kernel)
set_option maxRecDepth 20000 in
theorem gL_law_X5_triple : GoodIn wsL_law (wsV RL 88 RX5 yX5_triple wsX5_triple) := goodIn_app (goodIn_of _ (by decide +kernel)) ggL_law_X5_triple
set_option maxRecDepth 20000 in
theorem ggL_law_X5_of : GoodIn wsL_law wsX5_of := goodIn_r _ [135, 13, 136, 137, 138, 139, 140, 141, 117, 118, 119, 12, 120, 35, 142, 143, 144, 145, 146, 122, 123, 124, 36, 38, 37, 39, 40, 147, 148, 149, 150, 151, 152, 153, 154, 155, 156, 157, 158, 159, 130, 2, 131, 360, 361, 362, 363, 364, 365, 366, 367, 368, 369, 370, 371, 372, 373, 374, 375] (by decide +kernel) (by decide +kernel)
set_option maxRecDepth 20000 in
theorem gL_law_X5_of : GoodIn wsL_law (wsV RL 33 RX5 yX5_of wsX5_of) := goodIn_app (goodIn_of _ (by decide +kernel)) ggL_law_X5_of
