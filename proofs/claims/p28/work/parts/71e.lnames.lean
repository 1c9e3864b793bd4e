set_option maxRecDepth 20000 in
theorem ggL_isActed_L_kept : GoodIn wsL_isActed wsL_kept := goodIn_r _ [152, 153, 154, 3, 155, 156, 157, 158, 159, 160, 161, 162, 163, 164] (by decide +kernel) (by decide +kernel)
set_option maxRecDepth 20000 in
theorem gL_isActed_L_kept : GoodIn wsL_isActed (va_wsS RL 73 yL_kept wsL_kept) := goodIn_app (goodIn_of _ (by decide +kernel)) ggL_isActed_L_kept
set_option maxRecDepth 20000 in
theorem ggL_isActed_L_many : GoodIn wsL_isActed wsL_many := goodIn_r _ [161] (by decide +kernel) (by decide +kernel)
set_option maxRecDepth 20000 in
theorem gL_isActed_L_many : GoodIn wsL_isActed (va_wsS RL 9 yL_many wsL_many) := goodIn_app (goodIn_of _ (by decide +kernel)) ggL_isActed_L_many
set_option maxRecDepth 20000 in
theorem ggL_isActed_L_steps : GoodIn wsL_isActed wsL_steps := goodIn_r _ [204, 205, 206, 3, 207, 153, 154, 155, 162, 163, 164, 159, 160, 161, 208, 209, 210, 211, 212, 213, 214, 215, 216, 217, 218, 219] (by decide +kernel) (by decide +kernel)
set_option maxRecDepth 20000 in
theorem gL_isActed_L_steps : GoodIn wsL_isActed (va_wsS RL 95 yL_steps wsL_steps) := goodIn_app (goodIn_of _ (by decide +kernel)) ggL_isActed_L_steps
