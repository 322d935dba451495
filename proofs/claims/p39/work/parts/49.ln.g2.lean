set_option maxRecDepth 20000 in
theorem ggL_law_L_below : GoodIn wsL_law wsL_below := goodIn_r _ [50, 51] (by decide +kernel) (by decide +kernel)
set_option maxRecDepth 20000 in
theorem gL_law_L_below : GoodIn wsL_law (va_wsS RL 15 yL_below wsL_below) := goodIn_app (goodIn_of _ (by decide +kernel)) ggL_law_L_below
set_option maxRecDepth 20000 in
theorem ggL_law_X0_surelyDry : GoodIn wsL_law wsX0_surelyDry := goodIn_r _ [316, 205, 206, 207, 2, 208, 78, 20, 21, 22, 23, 209, 210, 211, 212, 63, 27, 213, 214, 215, 216, 217, 6, 7, 8, 234, 235, 236, 237, 226, 227, 228, 229, 113, 114, 115, 116, 28, 423, 424, 425, 426, 427, 428, 429, 430, 431, 432, 433, 434, 435, 436, 437] (by decide +kernel) (by decide +kernel)
set_option maxRecDepth 20000 in
theorem gL_law_X0_surelyDry : GoodIn wsL_law (wsV RL 124 RX0 yX0_surelyDry wsX0_surelyDry) := goodIn_app (goodIn_of _ (by decide +kernel)) ggL_law_X0_surelyDry
set_option maxRecDepth 20000 in
theorem ggL_law_X0_surelyDamp : GoodIn wsL_law wsX0_surelyDamp := goodIn_r _ [320, 205, 206, 207, 2, 208, 78, 20, 21, 22, 23, 209, 210, 211, 212, 63, 27, 213, 214, 215, 216, 217, 6, 7, 8, 238, 239, 240, 241, 230, 231, 232, 233, 113, 114, 115, 116, 28, 423, 424, 425, 426, 427, 428, 429, 430, 431, 432, 433, 434, 435, 436, 437] (by decide +kernel) (by decide +kernel)
set_option maxRecDepth 20000 in
theorem gL_law_X0_surelyDamp : GoodIn wsL_law (wsV RL 127 RX0 yX0_surelyDamp wsX0_surelyDamp) := goodIn_app (goodIn_of _ (by decide +kernel)) ggL_law_X0_surelyDamp
set_option maxRecDepth 20000 in
theorem ggL_law_X0_dampLayers : GoodIn wsL_law wsX0_dampLayers := goodIn_r _ [324, 63, 19, 113, 114, 115, 2, 116, 28, 423, 424, 425, 426, 427, 428, 429, 430, 431, 432, 433, 434, 435, 436, 437] (by decide +kernel) (by decide +kernel)
set_option maxRecDepth 20000 in
theorem gL_law_X0_dampLayers : GoodIn wsL_law (wsV RL 130 RX0 yX0_dampLayers wsX0_dampLayers) := goodIn_app (goodIn_of _ (by decide +kernel)) ggL_law_X0_dampLayers
set_option maxRecDepth 20000 in
theorem ggL_law_X0_samples : GoodIn wsL_law wsX0_samples := goodIn_r _ [296, 78, 423, 424, 425, 426, 427, 428, 429, 430, 431, 432, 433, 434, 435, 436, 437] (by decide +kernel) (by decide +kernel)
set_option maxRecDepth 20000 in
theorem gL_law_X0_samples : GoodIn wsL_law (wsV RL 133 RX0 yX0_samples wsX0_samples) := goodIn_app (goodIn_of _ (by decide +kernel)) ggL_law_X0_samples
set_option maxRecDepth 20000 in
theorem ggL_law_X0_doubtBehind : GoodIn wsL_law wsX0_doubtBehind := goodIn_ca (goodIn_r _ [328, 79, 80, 81, 2, 82, 83, 84, 63, 205, 206, 207, 208, 78, 20, 21, 22, 23, 209, 210, 211, 212, 27, 213, 214, 215, 216, 217, 6, 7, 8, 329, 330, 331, 332, 85, 86, 87, 88, 19, 333, 334, 335, 336, 423, 424, 425, 426, 427, 428, 429, 430, 431, 432, 433, 434, 435, 436, 437] (by decide +kernel) (by decide +kernel)) (goodIn_sub (fun _ h => List.mem_append_right _ h) (by decide +kernel))
set_option maxRecDepth 20000 in
theorem gL_law_X0_doubtBehind : GoodIn wsL_law (wsV RL 135 RX0 yX0_doubtBehind wsX0_doubtBehind) := goodIn_app (goodIn_of _ (by decide +kernel)) ggL_law_X0_doubtBehind
