theorem goodIn_cons {big a : List Cond} {c : Cond} (hc : GoodIn big [c]) (ha : GoodIn big a) : GoodIn big (c :: a) := fun w h => (List.mem_cons.mp h).elim (fun e => hc w (by rw [e]; exact List.mem_cons_self)) (ha w)
set_option maxRecDepth 20000 in
theorem gwX0 : GoodIn wsL_law wsX00 := goodIn_sub inlX0 (by decide +kernel)
set_option maxRecDepth 20000 in
theorem gwX1 : GoodIn wsL_law wsX10 := goodIn_sub inlX1 (by decide +kernel)
