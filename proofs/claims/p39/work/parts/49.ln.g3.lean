set_option maxRecDepth 20000 in
theorem ggL_law_X0_bestToLookAt : GoodIn wsL_law wsX0_bestToLookAt := goodIn_ca (goodIn_r _ [340, 63, 341, 342, 343, 2, 344, 61, 62, 205, 206, 207, 208, 78, 20, 21, 22, 23, 209, 210, 211, 212, 27, 213, 214, 215, 216, 217, 6, 7, 8, 329, 330, 331, 332, 85, 86, 87, 88, 19, 333, 334, 335, 336, 423, 424, 425, 426, 427, 428, 429, 430, 431, 432, 433, 434, 435, 436, 437] (by decide +kernel) (by decide +kernel)) (goodIn_sub (fun _ h => List.mem_append_left _ (List.mem_append_right _ h)) (by decide +kernel))
set_option maxRecDepth 20000 in
theorem gL_law_X0_bestToLookAt : GoodIn wsL_law (wsV RL 138 RX0 yX0_bestToLookAt wsX0_bestToLookAt) := goodIn_app (goodIn_of _ (by decide +kernel)) ggL_law_X0_bestToLookAt
set_option maxRecDepth 20000 in
theorem ggL_law_X0_draw : GoodIn wsL_law wsX0_draw := goodIn_ca (goodIn_ca (goodIn_r _ [77, 61, 62, 78, 20, 21, 22, 23, 79, 80, 81, 2, 82, 83, 84, 63, 85, 86, 87, 88, 19, 423, 424, 425, 426, 427, 428, 429, 430, 431, 432, 433, 434, 435, 436, 437] (by decide +kernel) (by decide +kernel)) (goodIn_sub (fun _ h => List.mem_append_left _ (List.mem_append_right _ h)) (by decide +kernel))) (goodIn_sub (fun _ h => List.mem_append_right _ h) (by decide +kernel))
set_option maxRecDepth 20000 in
theorem gL_law_X0_draw : GoodIn wsL_law (wsV RL 38 RX0 yX0_draw wsX0_draw) := goodIn_app (goodIn_of _ (by decide +kernel)) ggL_law_X0_draw
set_option maxRecDepth 20000 in
theorem ggL_law_X0_throwAway : GoodIn wsL_law wsX0_throwAway := goodIn_ca (goodIn_r _ [158, 78, 159, 160, 161, 2, 162, 83, 84, 129, 130, 131, 132, 20, 21, 22, 23, 423, 424, 425, 426, 427, 428, 429, 430, 431, 432, 433, 434, 435, 436, 437] (by decide +kernel) (by decide +kernel)) (goodIn_sub (fun _ h => List.mem_append_right _ h) (by decide +kernel))
set_option maxRecDepth 20000 in
theorem gL_law_X0_throwAway : GoodIn wsL_law (wsV RL 55 RX0 yX0_throwAway wsX0_throwAway) := goodIn_app (goodIn_of _ (by decide +kernel)) ggL_law_X0_throwAway
set_option maxRecDepth 20000 in
theorem ggL_law_X0_dampnessIn : GoodIn wsL_law wsX0_dampnessIn := goodIn_ca (goodIn_ca (goodIn_r _ [348, 25, 266, 267, 268, 2, 269, 83, 84, 63, 177, 178, 179, 59, 60, 349, 350, 351, 352, 19, 180, 181, 182, 183, 184, 185, 186, 187, 24, 188, 189, 190, 191, 192, 193, 194, 195, 423, 424, 425, 426, 427, 428, 429, 430, 431, 432, 433, 434, 435, 436, 437] (by decide +kernel) (by decide +kernel)) (goodIn_sub (fun _ h => List.mem_append_right _ h) (by decide +kernel))) (goodIn_sub (fun _ h => List.mem_append_left _ (List.mem_append_left _ (List.mem_append_right _ h))) (by decide +kernel))
set_option maxRecDepth 20000 in
theorem gL_law_X0_dampnessIn : GoodIn wsL_law (wsV RL 141 RX0 yX0_dampnessIn wsX0_dampnessIn) := goodIn_app (goodIn_of _ (by decide +kernel)) ggL_law_X0_dampnessIn
set_option maxRecDepth 20000 in
theorem ggL_law_X0_daysUntilEven : GoodIn wsL_law wsX0_daysUntilEven := goodIn_r _ [356, 25, 349, 350, 351, 2, 352, 63, 19, 184, 185, 186, 187, 24, 188, 189, 190, 191, 192, 193, 194, 195, 423, 424, 425, 426, 427, 428, 429, 430, 431, 432, 433, 434, 435, 436, 437] (by decide +kernel) (by decide +kernel)
set_option maxRecDepth 20000 in
theorem gL_law_X0_daysUntilEven : GoodIn wsL_law (wsV RL 144 RX0 yX0_daysUntilEven wsX0_daysUntilEven) := goodIn_app (goodIn_of _ (by decide +kernel)) ggL_law_X0_daysUntilEven
set_option maxRecDepth 20000 in
theorem ggL_law_X0_pass : GoodIn wsL_law wsX0_pass := goodIn_ca (goodIn_r _ [175, 19, 176, 177, 178, 2, 179, 59, 60, 180, 181, 182, 183, 184, 185, 186, 187, 63, 24, 188, 189, 190, 191, 192, 193, 194, 195, 196, 197, 198, 199, 78, 23, 21, 20, 423, 424, 425, 426, 427, 428, 429, 430, 431, 432, 433, 434, 435, 436, 437] (by decide +kernel) (by decide +kernel)) (goodIn_sub (fun _ h => List.mem_append_left _ (List.mem_append_left _ (List.mem_append_right _ h))) (by decide +kernel))
set_option maxRecDepth 20000 in
theorem gL_law_X0_pass : GoodIn wsL_law (wsV RL 69 RX0 yX0_pass wsX0_pass) := goodIn_app (goodIn_of _ (by decide +kernel)) ggL_law_X0_pass
