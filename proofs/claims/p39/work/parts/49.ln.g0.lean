set_option maxRecDepth 20000 in
theorem ggL_law_X0_init : GoodIn wsL_law wsX0_init := goodIn_r _ [14, 15, 16, 17, 4, 18, 19, 20, 21, 22, 23, 24, 25, 26, 27, 28, 423, 424, 425, 426, 427, 428, 429, 430, 431, 432, 433, 434, 435, 436, 437] (by decide +kernel) (by decide +kernel)
set_option maxRecDepth 20000 in
theorem gL_law_X0_init : GoodIn wsL_law (wsX0_init) := ggL_law_X0_init
set_option maxRecDepth 20000 in
theorem ggL_law_L_cell : GoodIn wsL_law wsL_cell := goodIn_r _ [46, 47] (by decide +kernel) (by decide +kernel)
set_option maxRecDepth 20000 in
theorem gL_law_L_cell : GoodIn wsL_law (va_wsS RL 72 yL_cell wsL_cell) := goodIn_app (goodIn_of _ (by decide +kernel)) ggL_law_L_cell
set_option maxRecDepth 20000 in
theorem ggL_law_X0_digest : GoodIn wsL_law wsX0_digest := goodIn_r _ [203, 204, 63, 78, 176, 28, 112, 111, 205, 206, 207, 2, 208, 20, 21, 22, 23, 209, 210, 211, 212, 27, 213, 214, 215, 216, 217, 6, 7, 8, 218, 219, 220, 221, 222, 223, 224, 225, 226, 227, 228, 229, 230, 231, 232, 233, 234, 235, 236, 237, 113, 114, 115, 116, 238, 239, 240, 241, 242, 243, 244, 245, 18, 19, 246, 247, 248, 249, 423, 424, 425, 426, 427, 428, 429, 430, 431, 432, 433, 434, 435, 436, 437] (by decide +kernel) (by decide +kernel)
set_option maxRecDepth 20000 in
theorem gL_law_X0_digest : GoodIn wsL_law (wsV RL 85 RX0 yX0_digest wsX0_digest) := goodIn_app (goodIn_of _ (by decide +kernel)) ggL_law_X0_digest
set_option maxRecDepth 20000 in
theorem ggL_law_X0_layers : GoodIn wsL_law wsX0_layers := goodIn_r _ [253, 63, 423, 424, 425, 426, 427, 428, 429, 430, 431, 432, 433, 434, 435, 436, 437] (by decide +kernel) (by decide +kernel)
set_option maxRecDepth 20000 in
theorem gL_law_X0_layers : GoodIn wsL_law (wsV RL 89 RX0 yX0_layers wsX0_layers) := goodIn_app (goodIn_of _ (by decide +kernel)) ggL_law_X0_layers
set_option maxRecDepth 20000 in
theorem ggL_law_X0_leastSum : GoodIn wsL_law wsX0_leastSum := goodIn_ca (goodIn_r _ [257, 79, 80, 81, 2, 82, 83, 84, 63, 205, 206, 207, 208, 78, 20, 21, 22, 23, 209, 210, 211, 212, 27, 213, 214, 215, 216, 217, 6, 7, 8, 230, 231, 232, 233, 423, 424, 425, 426, 427, 428, 429, 430, 431, 432, 433, 434, 435, 436, 437] (by decide +kernel) (by decide +kernel)) (goodIn_sub (fun _ h => List.mem_append_right _ h) (by decide +kernel))
set_option maxRecDepth 20000 in
theorem gL_law_X0_leastSum : GoodIn wsL_law (wsV RL 92 RX0 yX0_leastSum wsX0_leastSum) := goodIn_app (goodIn_of _ (by decide +kernel)) ggL_law_X0_leastSum
set_option maxRecDepth 20000 in
theorem ggL_law_X0_greatestSum : GoodIn wsL_law wsX0_greatestSum := goodIn_ca (goodIn_r _ [261, 79, 80, 81, 2, 82, 83, 84, 63, 205, 206, 207, 208, 78, 20, 21, 22, 23, 209, 210, 211, 212, 27, 213, 214, 215, 216, 217, 6, 7, 8, 226, 227, 228, 229, 423, 424, 425, 426, 427, 428, 429, 430, 431, 432, 433, 434, 435, 436, 437] (by decide +kernel) (by decide +kernel)) (goodIn_sub (fun _ h => List.mem_append_right _ h) (by decide +kernel))
set_option maxRecDepth 20000 in
theorem gL_law_X0_greatestSum : GoodIn wsL_law (wsV RL 95 RX0 yX0_greatestSum wsX0_greatestSum) := goodIn_app (goodIn_of _ (by decide +kernel)) ggL_law_X0_greatestSum
