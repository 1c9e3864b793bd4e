set_option maxRecDepth 20000 in
theorem lg_wsL_isActed_r12 : GoodIn wsL_law wsL_isActed_r12 := goodIn_r _ [331, 332, 333, 334, 335, 336, 337, 338, 339, 340, 341, 342, 343, 344, 345, 346, 347, 348, 349, 350, 351, 352, 353, 354] (by decide +kernel) (by decide +kernel)
set_option maxRecDepth 20000 in
theorem lg_wsL_isActed_r13 : GoodIn wsL_law wsL_isActed_r13 := goodIn_r _ [355] (by decide +kernel) (by decide +kernel)
set_option maxRecDepth 20000 in
theorem lg_L_isActed_wsX60 : GoodIn wsL_law wsX60 := goodIn_r _ [457, 458, 459, 460, 461, 462, 463, 464, 465] (by decide +kernel) (by decide +kernel)
set_option maxRecDepth 20000 in
theorem lg_L_isActed_wsX10 : GoodIn wsL_law wsX10 := goodIn_r _ [474, 475, 476] (by decide +kernel) (by decide +kernel)
