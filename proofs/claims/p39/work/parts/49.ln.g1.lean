set_option maxRecDepth 20000 in
theorem ggL_law_X0_dampnessOf : GoodIn wsL_law wsX0_dampnessOf := goodIn_ca (goodIn_r _ [265, 19, 266, 267, 268, 2, 269, 83, 84, 63, 423, 424, 425, 426, 427, 428, 429, 430, 431, 432, 433, 434, 435, 436, 437] (by decide +kernel) (by decide +kernel)) (goodIn_sub (fun _ h => List.mem_append_right _ h) (by decide +kernel))
set_option maxRecDepth 20000 in
theorem gL_law_X0_dampnessOf : GoodIn wsL_law (wsV RL 98 RX0 yX0_dampnessOf wsX0_dampnessOf) := goodIn_app (goodIn_of _ (by decide +kernel)) ggL_law_X0_dampnessOf
set_option maxRecDepth 20000 in
theorem ggL_law_X0_greatestOf : GoodIn wsL_law wsX0_greatestOf := goodIn_ca (goodIn_r _ [273, 266, 267, 268, 2, 269, 83, 84, 63, 205, 206, 207, 208, 78, 20, 21, 22, 23, 209, 210, 211, 212, 27, 213, 214, 215, 216, 217, 6, 7, 8, 226, 227, 228, 229, 423, 424, 425, 426, 427, 428, 429, 430, 431, 432, 433, 434, 435, 436, 437] (by decide +kernel) (by decide +kernel)) (goodIn_sub (fun _ h => List.mem_append_right _ h) (by decide +kernel))
set_option maxRecDepth 20000 in
theorem gL_law_X0_greatestOf : GoodIn wsL_law (wsV RL 101 RX0 yX0_greatestOf wsX0_greatestOf) := goodIn_app (goodIn_of _ (by decide +kernel)) ggL_law_X0_greatestOf
set_option maxRecDepth 20000 in
theorem ggL_law_X0_leastOf : GoodIn wsL_law wsX0_leastOf := goodIn_ca (goodIn_r _ [277, 266, 267, 268, 2, 269, 83, 84, 63, 205, 206, 207, 208, 78, 20, 21, 22, 23, 209, 210, 211, 212, 27, 213, 214, 215, 216, 217, 6, 7, 8, 230, 231, 232, 233, 423, 424, 425, 426, 427, 428, 429, 430, 431, 432, 433, 434, 435, 436, 437] (by decide +kernel) (by decide +kernel)) (goodIn_sub (fun _ h => List.mem_append_right _ h) (by decide +kernel))
set_option maxRecDepth 20000 in
theorem gL_law_X0_leastOf : GoodIn wsL_law (wsV RL 104 RX0 yX0_leastOf wsX0_leastOf) := goodIn_app (goodIn_of _ (by decide +kernel)) ggL_law_X0_leastOf
set_option maxRecDepth 20000 in
theorem ggL_law_X0_isKnown : GoodIn wsL_law wsX0_isKnown := goodIn_ca (goodIn_r _ [281, 266, 267, 268, 2, 269, 83, 84, 63, 205, 206, 207, 208, 78, 20, 21, 22, 23, 209, 210, 211, 212, 27, 213, 214, 215, 216, 217, 6, 7, 8, 230, 231, 232, 233, 226, 227, 228, 229, 423, 424, 425, 426, 427, 428, 429, 430, 431, 432, 433, 434, 435, 436, 437] (by decide +kernel) (by decide +kernel)) (goodIn_sub (fun _ h => List.mem_append_right _ h) (by decide +kernel))
set_option maxRecDepth 20000 in
theorem gL_law_X0_isKnown : GoodIn wsL_law (wsV RL 110 RX0 yX0_isKnown wsX0_isKnown) := goodIn_app (goodIn_of _ (by decide +kernel)) ggL_law_X0_isKnown
set_option maxRecDepth 20000 in
theorem ggL_law_X1_added : GoodIn wsL_law wsX1_added := goodIn_r _ [96, 42, 438, 439, 440, 441, 442, 443] (by decide +kernel) (by decide +kernel)
set_option maxRecDepth 20000 in
theorem gL_law_X1_added : GoodIn wsL_law (wsV RL 114 RX1 yX1_added wsX1_added) := goodIn_app (goodIn_of _ (by decide +kernel)) ggL_law_X1_added
set_option maxRecDepth 20000 in
theorem ggL_law_X0_doubt : GoodIn wsL_law wsX0_doubt := goodIn_r _ [286, 205, 206, 207, 2, 208, 78, 20, 21, 22, 23, 209, 210, 211, 212, 63, 27, 213, 214, 215, 216, 217, 6, 7, 8, 222, 223, 224, 225, 226, 227, 228, 229, 230, 231, 232, 233, 423, 424, 425, 426, 427, 428, 429, 430, 431, 432, 433, 434, 435, 436, 437] (by decide +kernel) (by decide +kernel)
set_option maxRecDepth 20000 in
theorem gL_law_X0_doubt : GoodIn wsL_law (wsV RL 117 RX0 yX0_doubt wsX0_doubt) := goodIn_app (goodIn_of _ (by decide +kernel)) ggL_law_X0_doubt
