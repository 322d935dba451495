set_option maxRecDepth 20000 in
theorem ggL_law_L_build_h : GoodIn wsL_law [Cond.code yL_build cL_build 9 (some (.object "GrainSiloLaw$Sim"))] := goodIn_r _ [32] (by decide +kernel) (by decide +kernel)
set_option maxRecDepth 20000 in
theorem ggL_law_L_build_wsL_build_r1 : GoodIn wsL_law wsL_build_r1 := goodIn_r _ [33, 34, 35, 4, 36, 37, 38, 39, 16, 17, 40, 41, 42, 43, 44, 45, 31, 46, 47, 48, 49, 50, 51, 52] (by decide +kernel) (by decide +kernel)
set_option maxRecDepth 20000 in
theorem ggL_law_L_build_wsL_build_r2 : GoodIn wsL_law wsL_build_r2 := goodIn_r _ [53, 54, 55, 56, 57, 2, 58, 59, 60, 61, 62, 63, 64, 65, 66, 67, 68, 69, 70, 71, 72, 73, 18, 19] (by decide +kernel) (by decide +kernel)
set_option maxRecDepth 20000 in
theorem ggL_law_L_build_wsL_build_r3 : GoodIn wsL_law wsL_build_r3 := goodIn_r _ [74, 75, 76, 77, 78, 20, 21, 22, 23, 79, 80, 81, 82, 83, 84, 85, 86, 87, 88, 89, 90, 91, 92, 93] (by decide +kernel) (by decide +kernel)
set_option maxRecDepth 20000 in
theorem ggL_law_L_build_wsL_build_r4 : GoodIn wsL_law wsL_build_r4 := goodIn_r _ [94, 95, 96, 97] (by decide +kernel) (by decide +kernel)
set_option maxRecDepth 20000 in
theorem ggL_law_L_build : GoodIn wsL_law wsL_build := goodIn_ca (goodIn_ca (goodIn_ca (goodIn_cons ggL_law_L_build_h (goodIn_app (goodIn_app (goodIn_app ggL_law_L_build_wsL_build_r1 (goodIn_app ggL_law_L_build_wsL_build_r2 (goodIn_app ggL_law_L_build_wsL_build_r3 ggL_law_L_build_wsL_build_r4))) gwX1) gwX0)) (goodIn_sub (fun _ h => List.mem_append_left _ (List.mem_append_left _ (List.mem_append_right _ h))) (by decide +kernel))) (goodIn_sub (fun _ h => List.mem_append_left _ (List.mem_append_right _ h)) (by decide +kernel))) (goodIn_sub (fun _ h => List.mem_append_right _ h) (by decide +kernel))
set_option maxRecDepth 20000 in
theorem gL_law_L_build : GoodIn wsL_law (va_wsS RL 77 yL_build wsL_build) := goodIn_app (goodIn_of _ (by decide +kernel)) ggL_law_L_build
