set_option maxRecDepth 20000 in
theorem lg_L_areTold_wsX30 : GoodIn wsL_law wsX30 := goodIn_r _ [477, 478, 479, 480, 481, 482, 483, 484, 485] (by decide +kernel) (by decide +kernel)
set_option maxRecDepth 20000 in
theorem lg_L_areTold_wsX10 : GoodIn wsL_law wsX10 := goodIn_r _ [474, 475, 476] (by decide +kernel) (by decide +kernel)
theorem ggL_law_L_areTold : GoodIn wsL_law wsL_areTold := fun w h => (List.mem_cons.mp h).elim (fun e => lg_L_areTold_0 w (List.mem_cons.mpr (Or.inl e))) ((goodIn_app (goodIn_app (goodIn_app (goodIn_app (goodIn_app (goodIn_app (goodIn_app (goodIn_app lg_wsL_areTold_r1 (goodIn_app lg_wsL_areTold_r2 (goodIn_app lg_wsL_areTold_r3 (goodIn_app lg_wsL_areTold_r4 (goodIn_app lg_wsL_areTold_r5 (lg_wsL_areTold_r6)))))) lg_L_areTold_wsX60) lg_L_areTold_wsX40) lg_L_areTold_wsX50) lg_L_areTold_wsX20) lg_L_areTold_wsX00) lg_L_areTold_wsX30) lg_L_areTold_wsX10) w)
set_option maxRecDepth 20000 in
theorem gL_law_L_areTold : GoodIn wsL_law (va_wsS RL 122 yL_areTold wsL_areTold) := goodIn_app (goodIn_of _ (by decide +kernel)) ggL_law_L_areTold
