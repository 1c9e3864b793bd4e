set_option maxRecDepth 20000 in
theorem lg_L_areRows_0 : GoodIn wsL_law [.code yL_areRows cL_areRows 9 (some .boolean)] := goodIn_r _ [428] rfl (by decide +kernel)
set_option maxRecDepth 20000 in
theorem lg_wsL_areRows_r1 : GoodIn wsL_law wsL_areRows_r1 := goodIn_r _ [429, 430, 431, 2, 432, 14, 363, 150, 151, 13, 152, 33, 32, 433, 243, 244, 31, 245, 117, 146, 147, 148, 434, 183] (by decide +kernel) (by decide +kernel)
set_option maxRecDepth 20000 in
theorem lg_wsL_areRows_r2 : GoodIn wsL_law wsL_areRows_r2 := goodIn_r _ [184, 185, 55, 435, 179, 180, 181, 56, 436, 437, 438, 439, 41, 246, 202, 203, 204, 40, 205, 68, 326, 440, 441, 442] (by decide +kernel) (by decide +kernel)
set_option maxRecDepth 20000 in
theorem lg_wsL_areRows_r3 : GoodIn wsL_law wsL_areRows_r3 := goodIn_r _ [443, 49, 444, 255, 256, 257, 111, 422, 423, 424, 425, 143, 144, 145, 413, 414, 415, 416, 37, 417, 418, 419, 36, 420] (by decide +kernel) (by decide +kernel)
