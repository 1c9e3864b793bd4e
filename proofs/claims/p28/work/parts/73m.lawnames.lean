set_option maxRecDepth 20000 in
theorem lg_L_areTold_wsX40 : GoodIn wsL_law wsX40 := goodIn_r _ [466, 467, 468, 469, 470, 471, 472, 473] (by decide +kernel) (by decide +kernel)
set_option maxRecDepth 20000 in
theorem lg_L_areTold_wsX50 : GoodIn wsL_law wsX50 := goodIn_r _ [486, 487, 488] (by decide +kernel) (by decide +kernel)
set_option maxRecDepth 20000 in
theorem lg_L_areTold_wsX20 : GoodIn wsL_law wsX20 := goodIn_r _ [492, 493, 494, 495] (by decide +kernel) (by decide +kernel)
set_option maxRecDepth 20000 in
theorem lg_L_areTold_wsX00 : GoodIn wsL_law wsX00 := goodIn_r _ [489, 490, 491] (by decide +kernel) (by decide +kernel)
