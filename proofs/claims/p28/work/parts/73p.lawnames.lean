set_option maxRecDepth 20000 in
theorem lg_wsL_areRows_r4 : GoodIn wsL_law wsL_areRows_r4 := goodIn_r _ [61, 62, 63, 421, 303, 304, 305, 400, 401, 402, 403, 365, 366, 367, 368, 404, 405, 406, 407, 408, 379, 380, 381, 382] (by decide +kernel) (by decide +kernel)
set_option maxRecDepth 20000 in
theorem lg_wsL_areRows_r5 : GoodIn wsL_law wsL_areRows_r5 := goodIn_r _ [409, 410, 411, 412, 322, 323, 324, 325, 70, 69, 219, 220, 85, 221, 274, 275, 276, 445, 446, 447, 448, 449, 450, 451] (by decide +kernel) (by decide +kernel)
set_option maxRecDepth 20000 in
theorem lg_wsL_areRows_r6 : GoodIn wsL_law wsL_areRows_r6 := goodIn_r _ [452, 153, 154, 155, 156, 327, 328, 329, 330, 453, 454, 455, 456] (by decide +kernel) (by decide +kernel)
set_option maxRecDepth 20000 in
theorem lg_L_areRows_wsX60 : GoodIn wsL_law wsX60 := goodIn_r _ [457, 458, 459, 460, 461, 462, 463, 464, 465] (by decide +kernel) (by decide +kernel)
