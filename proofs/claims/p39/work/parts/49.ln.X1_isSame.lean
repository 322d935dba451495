set_option maxRecDepth 20000 in
theorem ggL_law_X1_isSame_h : GoodIn wsL_law [Cond.code yX1_isSame cX1_isSame 12 (some .boolean)] := goodIn_r _ [360] (by decide +kernel) (by decide +kernel)
set_option maxRecDepth 20000 in
theorem ggL_law_X1_isSame_wsX1_isSame_r1 : GoodIn wsL_law wsX1_isSame_r1 := goodIn_r _ [42, 43, 171, 40, 142, 141, 4, 361, 251, 252, 2, 253, 63, 362, 294, 295, 296, 78, 363, 364, 365, 366, 176, 367] (by decide +kernel) (by decide +kernel)
set_option maxRecDepth 20000 in
theorem ggL_law_X1_isSame_wsX1_isSame_r2 : GoodIn wsL_law wsX1_isSame_r2 := goodIn_r _ [368, 369, 370, 28, 371, 372, 373, 374, 112, 375, 376, 377, 378, 111, 379, 380, 381, 382, 85, 86, 87, 88, 19, 93] (by decide +kernel) (by decide +kernel)
set_option maxRecDepth 20000 in
theorem ggL_law_X1_isSame_wsX1_isSame_r3 : GoodIn wsL_law wsX1_isSame_r3 := goodIn_r _ [94, 95, 35, 96, 383, 384, 385, 386, 387, 388, 389, 390, 391, 392, 393, 394, 395, 396, 397, 398, 18, 266, 267, 268] (by decide +kernel) (by decide +kernel)
set_option maxRecDepth 20000 in
theorem ggL_law_X1_isSame_wsX1_isSame_r4 : GoodIn wsL_law wsX1_isSame_r4 := goodIn_r _ [269, 83, 84, 399, 263, 264, 265, 400, 275, 276, 277, 205, 206, 207, 208, 20, 21, 22, 23, 209, 210, 211, 212, 27] (by decide +kernel) (by decide +kernel)
set_option maxRecDepth 20000 in
theorem ggL_law_X1_isSame_wsX1_isSame_r5 : GoodIn wsL_law wsX1_isSame_r5 := goodIn_r _ [213, 214, 215, 216, 217, 6, 7, 8, 230, 231, 232, 233, 401, 271, 272, 273, 226, 227, 228, 229, 402, 279, 280, 281] (by decide +kernel) (by decide +kernel)
set_option maxRecDepth 20000 in
theorem ggL_law_X1_isSame_wsX1_isSame_r6 : GoodIn wsL_law wsX1_isSame_r6 := goodIn_r _ [403, 404, 405, 406, 64, 65, 66, 407, 302, 303, 304, 159, 160, 161, 162, 408, 298, 299, 300, 409, 306, 307, 308, 410] (by decide +kernel) (by decide +kernel)
set_option maxRecDepth 20000 in
theorem ggL_law_X1_isSame_wsX1_isSame_r7 : GoodIn wsL_law wsX1_isSame_r7 := goodIn_r _ [310, 311, 312, 411, 322, 323, 324, 113, 114, 115, 116, 412, 314, 315, 316, 234, 235, 236, 237, 413, 318, 319, 320, 238] (by decide +kernel) (by decide +kernel)
set_option maxRecDepth 20000 in
theorem ggL_law_X1_isSame_wsX1_isSame_r8 : GoodIn wsL_law wsX1_isSame_r8 := goodIn_r _ [239, 240, 241, 414, 284, 285, 286, 222, 223, 224, 225, 415, 416, 417, 418, 419, 420, 421, 422, 341, 342, 343, 344, 61] (by decide +kernel) (by decide +kernel)
set_option maxRecDepth 20000 in
theorem ggL_law_X1_isSame_wsX1_isSame_r9 : GoodIn wsL_law wsX1_isSame_r9 := goodIn_r _ [62] (by decide +kernel) (by decide +kernel)
set_option maxRecDepth 20000 in
theorem ggL_law_X1_isSame : GoodIn wsL_law wsX1_isSame := goodIn_ca (goodIn_ca (goodIn_cons ggL_law_X1_isSame_h (goodIn_app (goodIn_app (goodIn_app ggL_law_X1_isSame_wsX1_isSame_r1 (goodIn_app ggL_law_X1_isSame_wsX1_isSame_r2 (goodIn_app ggL_law_X1_isSame_wsX1_isSame_r3 (goodIn_app ggL_law_X1_isSame_wsX1_isSame_r4 (goodIn_app ggL_law_X1_isSame_wsX1_isSame_r5 (goodIn_app ggL_law_X1_isSame_wsX1_isSame_r6 (goodIn_app ggL_law_X1_isSame_wsX1_isSame_r7 (goodIn_app ggL_law_X1_isSame_wsX1_isSame_r8 ggL_law_X1_isSame_wsX1_isSame_r9)))))))) gwX1) gwX0)) (goodIn_sub (fun _ h => List.mem_append_right _ h) (by decide +kernel))) (goodIn_sub (fun _ h => List.mem_append_left _ (List.mem_append_right _ h)) (by decide +kernel))
set_option maxRecDepth 20000 in
theorem gL_law_X1_isSame : GoodIn wsL_law (wsV RL 147 RX1 yX1_isSame wsX1_isSame) := goodIn_app (goodIn_of _ (by decide +kernel)) ggL_law_X1_isSame
