set_option maxRecDepth 20000 in
theorem lg_wsL_isActed_r13 : GoodIn wsL_law wsL_isActed_r13 := goodIn_r _ [355] (by decide +kernel) (by decide +kernel)
set_option maxRecDepth 20000 in
theorem lg_L_isActed_wsX60 : GoodIn wsL_law wsX60 := goodIn_r _ [457, 458, 459, 460, 461, 462, 463, 464, 465] (by decide +kernel) (by decide +kernel)
set_option maxRecDepth 20000 in
theorem lg_L_isActed_wsX10 : GoodIn wsL_law wsX10 := goodIn_r _ [474, 475, 476] (by decide +kernel) (by decide +kernel)
set_option maxRecDepth 20000 in
theorem lg_L_isActed_wsX40 : GoodIn wsL_law wsX40 := goodIn_r _ [466, 467, 468, 469, 470, 471, 472, 473] (by decide +kernel) (by decide +kernel)
set_option maxRecDepth 20000 in
theorem lg_L_isActed_wsX50 : GoodIn wsL_law wsX50 := goodIn_r _ [486, 487, 488] (by decide +kernel) (by decide +kernel)
set_option maxRecDepth 20000 in
theorem lg_L_isActed_wsX00 : GoodIn wsL_law wsX00 := goodIn_r _ [489, 490, 491] (by decide +kernel) (by decide +kernel)
set_option maxRecDepth 20000 in
theorem lg_L_isActed_wsX20 : GoodIn wsL_law wsX20 := goodIn_r _ [492, 493, 494, 495] (by decide +kernel) (by decide +kernel)
theorem ggL_law_L_isActed : GoodIn wsL_law wsL_isActed := fun w h => (List.mem_cons.mp h).elim (fun e => lg_L_isActed_0 w (List.mem_cons.mpr (Or.inl e))) ((goodIn_app (goodIn_app (goodIn_app (goodIn_app (goodIn_app (goodIn_app (goodIn_app lg_wsL_isActed_r1 (goodIn_app lg_wsL_isActed_r2 (goodIn_app lg_wsL_isActed_r3 (goodIn_app lg_wsL_isActed_r4 (goodIn_app lg_wsL_isActed_r5 (goodIn_app lg_wsL_isActed_r6 (goodIn_app lg_wsL_isActed_r7 (goodIn_app lg_wsL_isActed_r8 (goodIn_app lg_wsL_isActed_r9 (goodIn_app lg_wsL_isActed_r10 (goodIn_app lg_wsL_isActed_r11 (goodIn_app lg_wsL_isActed_r12 (lg_wsL_isActed_r13))))))))))))) lg_L_isActed_wsX60) lg_L_isActed_wsX10) lg_L_isActed_wsX40) lg_L_isActed_wsX50) lg_L_isActed_wsX00) lg_L_isActed_wsX20) w)
set_option maxRecDepth 20000 in
theorem gL_law_L_isActed : GoodIn wsL_law (va_wsS RL 118 yL_isActed wsL_isActed) := goodIn_app (goodIn_of _ (by decide +kernel)) ggL_law_L_isActed
