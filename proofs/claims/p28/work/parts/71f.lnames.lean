set_option maxRecDepth 20000 in
theorem ggL_isActed_X6_step : GoodIn wsL_isActed wsX6_step := goodIn_r _ [223, 10, 11, 12, 13, 14, 15, 16, 17, 18, 19, 20, 21, 22, 23, 24, 25, 26, 27, 28, 29, 30, 31, 32, 33, 34, 35, 36, 37, 38, 39, 40, 41, 42, 43, 44, 8, 45, 46, 47, 48, 49, 50, 51, 52, 53, 54, 55, 56, 57, 58, 59, 60, 61, 62, 63, 64, 65, 66, 67, 68, 69, 70, 224, 225, 226, 227, 87, 88, 89, 90, 180, 117, 118, 119, 228, 229, 230, 231, 136, 137, 138, 139, 232, 233, 234, 235, 236, 237, 238, 239, 240, 241, 242, 243, 244, 245, 246, 247, 248, 249, 250, 251, 252, 253, 254, 255, 256, 257, 258, 259, 140, 141, 142, 143, 260, 113, 114, 115, 261, 262, 263, 264, 144, 145, 146, 147, 148, 149, 290, 291, 292, 293, 294, 295, 296, 297, 298, 299, 300, 301, 302, 303, 304, 305, 306, 307, 308, 309, 310, 311, 312, 313, 314, 315, 316, 317, 318, 319] (by decide +kernel) (by decide +kernel)
set_option maxRecDepth 20000 in
theorem gL_isActed_X6_step : GoodIn wsL_isActed (wsV RL 99 RX6 yX6_step wsX6_step) := goodIn_app (goodIn_of _ (by decide +kernel)) ggL_isActed_X6_step
set_option maxRecDepth 20000 in
theorem ggL_isActed_X6_again : GoodIn wsL_isActed wsX6_again := goodIn_r _ [268, 10, 11, 12, 13, 14, 15, 16, 17, 18, 19, 20, 21, 22, 23, 24, 25, 26, 27, 28, 29, 30, 31, 32, 33, 34, 35, 36, 37, 38, 39, 40, 41, 42, 43, 44, 8, 45, 46, 47, 48, 49, 50, 51, 52, 53, 54, 55, 56, 57, 58, 59, 60, 61, 62, 63, 64, 65, 66, 67, 68, 69, 70, 269, 270, 271, 272, 144, 145, 146, 147, 148, 149, 290, 291, 292, 293, 294, 295, 296, 297, 298, 299, 300, 301, 302, 303, 304, 305, 306, 307, 308, 309, 310, 311, 312, 313, 314, 315, 316, 317, 318, 319] (by decide +kernel) (by decide +kernel)
set_option maxRecDepth 20000 in
theorem gL_isActed_X6_again : GoodIn wsL_isActed (wsV RL 102 RX6 yX6_again wsX6_again) := goodIn_app (goodIn_of _ (by decide +kernel)) ggL_isActed_X6_again
set_option maxRecDepth 20000 in
theorem ggL_isActed_L_goes : GoodIn wsL_isActed wsL_goes := goodIn_r _ [158, 159, 160, 3, 161, 162, 163, 164] (by decide +kernel) (by decide +kernel)
set_option maxRecDepth 20000 in
theorem gL_isActed_L_goes : GoodIn wsL_isActed (va_wsS RL 35 yL_goes wsL_goes) := goodIn_app (goodIn_of _ (by decide +kernel)) ggL_isActed_L_goes
