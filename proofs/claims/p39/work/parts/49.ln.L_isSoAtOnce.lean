set_option maxRecDepth 20000 in
theorem ggL_law_L_isSoAtOnce_h : GoodIn wsL_law [Cond.code yL_isSoAtOnce cL_isSoAtOnce 5 (some .boolean)] := goodIn_r _ [289] (by decide +kernel) (by decide +kernel)
set_option maxRecDepth 20000 in
theorem ggL_law_L_isSoAtOnce_wsL_isSoAtOnce_r1 : GoodIn wsL_law wsL_isSoAtOnce_r1 := goodIn_r _ [4, 290, 291, 7, 292, 250, 251, 252, 2, 253, 63, 258, 259, 260, 261, 79, 80, 81, 82, 83, 84, 205, 206, 207] (by decide +kernel) (by decide +kernel)
set_option maxRecDepth 20000 in
theorem ggL_law_L_isSoAtOnce_wsL_isSoAtOnce_r2 : GoodIn wsL_law wsL_isSoAtOnce_r2 := goodIn_r _ [208, 78, 20, 21, 22, 23, 209, 210, 211, 212, 27, 213, 214, 215, 216, 217, 6, 8, 226, 227, 228, 229, 254, 255] (by decide +kernel) (by decide +kernel)
set_option maxRecDepth 20000 in
theorem ggL_law_L_isSoAtOnce_wsL_isSoAtOnce_r3 : GoodIn wsL_law wsL_isSoAtOnce_r3 := goodIn_r _ [256, 257, 230, 231, 232, 233, 293, 294, 295, 296, 297, 298, 299, 300, 159, 160, 161, 162, 301, 302, 303, 304, 305, 306] (by decide +kernel) (by decide +kernel)
set_option maxRecDepth 20000 in
theorem ggL_law_L_isSoAtOnce_wsL_isSoAtOnce_r4 : GoodIn wsL_law wsL_isSoAtOnce_r4 := goodIn_r _ [307, 308, 309, 310, 311, 312] (by decide +kernel) (by decide +kernel)
set_option maxRecDepth 20000 in
theorem ggL_law_L_isSoAtOnce : GoodIn wsL_law wsL_isSoAtOnce := goodIn_ca (goodIn_cons ggL_law_L_isSoAtOnce_h (goodIn_app (goodIn_app ggL_law_L_isSoAtOnce_wsL_isSoAtOnce_r1 (goodIn_app ggL_law_L_isSoAtOnce_wsL_isSoAtOnce_r2 (goodIn_app ggL_law_L_isSoAtOnce_wsL_isSoAtOnce_r3 ggL_law_L_isSoAtOnce_wsL_isSoAtOnce_r4))) gwX0)) (goodIn_sub (fun _ h => List.mem_append_right _ h) (by decide +kernel))
set_option maxRecDepth 20000 in
theorem gL_law_L_isSoAtOnce : GoodIn wsL_law (va_wsS RL 120 yL_isSoAtOnce wsL_isSoAtOnce) := goodIn_app (goodIn_of _ (by decide +kernel)) ggL_law_L_isSoAtOnce
