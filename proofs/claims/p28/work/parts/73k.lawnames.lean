set_option maxRecDepth 20000 in
theorem lg_L_areTold_0 : GoodIn wsL_law [.code yL_areTold cL_areTold 15 (some .boolean)] := goodIn_r _ [358] rfl (by decide +kernel)
set_option maxRecDepth 20000 in
theorem lg_wsL_areTold_r1 : GoodIn wsL_law wsL_areTold_r1 := goodIn_r _ [3, 359, 360, 361, 2, 362, 14, 24, 20, 363, 150, 151, 13, 152, 33, 32, 364, 154, 155, 31, 156, 117, 365, 366] (by decide +kernel) (by decide +kernel)
set_option maxRecDepth 20000 in
theorem lg_wsL_areTold_r2 : GoodIn wsL_law wsL_areTold_r2 := goodIn_r _ [367, 368, 41, 369, 195, 196, 40, 197, 68, 370, 315, 316, 317, 37, 202, 203, 204, 205, 302, 303, 304, 36, 305, 61] (by decide +kernel) (by decide +kernel)
set_option maxRecDepth 20000 in
theorem lg_wsL_areTold_r3 : GoodIn wsL_law wsL_areTold_r3 := goodIn_r _ [371, 372, 373, 374, 111, 375, 376, 377, 378, 112, 379, 380, 381, 382, 49, 383, 384, 385, 23, 386, 387, 388, 389, 390] (by decide +kernel) (by decide +kernel)
