set_option maxRecDepth 20000 in
theorem lg_L_isActed_0 : GoodIn wsL_law [.code yL_isActed cL_isActed 12 (some .boolean)] := goodIn_r _ [90] rfl (by decide +kernel)
set_option maxRecDepth 20000 in
theorem lg_wsL_isActed_r1 : GoodIn wsL_law wsL_isActed_r1 := goodIn_r _ [91, 92, 85, 93, 94, 95, 96, 2, 97, 20, 14, 98, 99, 100, 19, 101, 102, 103, 104, 105, 106, 76, 107, 108] (by decide +kernel) (by decide +kernel)
set_option maxRecDepth 20000 in
theorem lg_wsL_isActed_r2 : GoodIn wsL_law wsL_isActed_r2 := goodIn_r _ [109, 13, 110, 32, 33, 37, 41, 49, 50, 111, 112, 113, 114, 115, 31, 116, 55, 56, 117, 118, 119, 120, 121, 122] (by decide +kernel) (by decide +kernel)
set_option maxRecDepth 20000 in
theorem lg_wsL_isActed_r3 : GoodIn wsL_law wsL_isActed_r3 := goodIn_r _ [123, 124, 125, 126, 127, 128, 129, 130, 36, 131, 61, 62, 63, 132, 133, 134, 40, 135, 68, 69, 70, 136, 137, 138] (by decide +kernel) (by decide +kernel)
