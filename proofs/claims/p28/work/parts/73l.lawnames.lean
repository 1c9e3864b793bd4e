set_option maxRecDepth 20000 in
theorem lg_wsL_areTold_r4 : GoodIn wsL_law wsL_areTold_r4 := goodIn_r _ [19, 391, 214, 146, 147, 148, 392, 393, 394, 395, 50, 225, 226, 85, 227, 283, 284, 285, 274, 275, 276, 396, 397, 398] (by decide +kernel) (by decide +kernel)
set_option maxRecDepth 20000 in
theorem lg_wsL_areTold_r5 : GoodIn wsL_law wsL_areTold_r5 := goodIn_r _ [399, 280, 281, 282, 400, 401, 402, 403, 143, 144, 145, 404, 405, 406, 407, 408, 409, 410, 411, 412, 322, 323, 324, 325] (by decide +kernel) (by decide +kernel)
set_option maxRecDepth 20000 in
theorem lg_wsL_areTold_r6 : GoodIn wsL_law wsL_areTold_r6 := goodIn_r _ [70, 69, 413, 414, 415, 416, 417, 418, 419, 420, 62, 63, 421, 228, 229, 230, 219, 220, 221, 422, 423, 424, 425] (by decide +kernel) (by decide +kernel)
set_option maxRecDepth 20000 in
theorem lg_L_areTold_wsX60 : GoodIn wsL_law wsX60 := goodIn_r _ [457, 458, 459, 460, 461, 462, 463, 464, 465] (by decide +kernel) (by decide +kernel)
