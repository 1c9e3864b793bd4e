set_option maxRecDepth 20000 in
theorem ggL_law_X7_change : GoodIn wsL_law wsX7_change := goodIn_r _ [303, 89, 282, 283, 284, 5, 285, 225, 226, 227, 222, 223, 224, 228, 229, 230, 231, 232, 233, 90, 304, 305, 306, 307, 238, 239, 240, 241, 242, 243, 244, 245, 246, 247, 248, 249, 250, 251, 252, 253, 308, 309, 310, 311, 836, 837, 838, 839, 840, 841, 842, 843, 844, 845, 846, 847, 848, 849] (by decide +kernel) (by decide +kernel)
set_option maxRecDepth 20000 in
theorem gL_law_X7_change : GoodIn wsL_law (wsV RL 27 RX7 yX7_change wsX7_change) := goodIn_app (goodIn_of _ (by decide +kernel)) ggL_law_X7_change
set_option maxRecDepth 20000 in
theorem ggL_law_X6_step : GoodIn wsL_law wsX6_step := goodIn_r _ [315, 21, 15, 100, 101, 102, 20, 103, 104, 105, 106, 107, 108, 78, 109, 110, 111, 14, 112, 33, 34, 38, 42, 50, 52, 113, 114, 115, 116, 117, 32, 118, 57, 58, 119, 120, 2, 121, 122, 123, 124, 125, 126, 127, 128, 129, 130, 131, 132, 37, 133, 63, 64, 65, 134, 135, 136, 41, 137, 70, 71, 72, 138, 316, 317, 318, 319, 155, 156, 157, 158, 266, 185, 186, 187, 320, 321, 322, 323, 204, 205, 206, 207, 324, 325, 326, 327, 328, 329, 330, 331, 332, 333, 334, 335, 336, 337, 338, 339, 340, 341, 342, 343, 344, 345, 346, 347, 348, 349, 350, 351, 208, 209, 210, 211, 352, 181, 182, 183, 353, 354, 355, 356, 212, 213, 214, 215, 216, 217, 827, 828, 829, 830, 831, 832, 833, 834, 835, 858, 859, 860, 850, 851, 852, 853, 854, 855, 856, 857, 870, 871, 872, 873, 874, 875, 876, 877, 878, 879] (by decide +kernel) (by decide +kernel)
set_option maxRecDepth 20000 in
theorem gL_law_X6_step : GoodIn wsL_law (wsV RL 28 RX6 yX6_step wsX6_step) := goodIn_app (goodIn_of _ (by decide +kernel)) ggL_law_X6_step
set_option maxRecDepth 20000 in
theorem ggL_law_X7_step : GoodIn wsL_law wsX7_step := goodIn_r _ [360, 89, 225, 226, 5, 227, 228, 229, 230, 231, 232, 233, 90, 361, 362, 363, 364, 365, 366, 367, 368, 250, 251, 252, 253, 369, 370, 371, 372, 373, 374, 375, 376, 377, 378, 379, 380, 304, 305, 306, 307, 381, 382, 383, 384, 385, 386, 387, 388, 389, 390, 391, 392, 393, 394, 395, 396, 397, 398, 399, 400, 401, 402, 403, 404, 836, 837, 838, 839, 840, 841, 842, 843, 844, 845, 846, 847, 848, 849] (by decide +kernel) (by decide +kernel)
set_option maxRecDepth 20000 in
theorem gL_law_X7_step : GoodIn wsL_law (wsV RL 32 RX7 yX7_step wsX7_step) := goodIn_app (goodIn_of _ (by decide +kernel)) ggL_law_X7_step
set_option maxRecDepth 20000 in
theorem ggL_law_X6_again : GoodIn wsL_law wsX6_again := goodIn_r _ [408, 21, 15, 100, 101, 102, 20, 103, 104, 105, 106, 107, 108, 78, 109, 110, 111, 14, 112, 33, 34, 38, 42, 50, 52, 113, 114, 115, 116, 117, 32, 118, 57, 58, 119, 120, 2, 121, 122, 123, 124, 125, 126, 127, 128, 129, 130, 131, 132, 37, 133, 63, 64, 65, 134, 135, 136, 41, 137, 70, 71, 72, 138, 409, 410, 411, 412, 212, 213, 214, 215, 216, 217, 827, 828, 829, 830, 831, 832, 833, 834, 835, 858, 859, 860, 850, 851, 852, 853, 854, 855, 856, 857, 870, 871, 872, 873, 874, 875, 876, 877, 878, 879] (by decide +kernel) (by decide +kernel)
set_option maxRecDepth 20000 in
theorem gL_law_X6_again : GoodIn wsL_law (wsV RL 33 RX6 yX6_again wsX6_again) := goodIn_app (goodIn_of _ (by decide +kernel)) ggL_law_X6_again
set_option maxRecDepth 20000 in
theorem ggL_law_X7_again : GoodIn wsL_law wsX7_again := goodIn_r _ [416, 89, 228, 229, 230, 5, 231, 232, 233, 90, 836, 837, 838, 839, 840, 841, 842, 843, 844, 845, 846, 847, 848, 849] (by decide +kernel) (by decide +kernel)
set_option maxRecDepth 20000 in
theorem gL_law_X7_again : GoodIn wsL_law (wsV RL 37 RX7 yX7_again wsX7_again) := goodIn_app (goodIn_of _ (by decide +kernel)) ggL_law_X7_again
set_option maxRecDepth 20000 in
theorem ggL_law_X6_forget : GoodIn wsL_law wsX6_forget := goodIn_r _ [420, 21, 15, 100, 101, 102, 20, 103, 104, 105, 106, 107, 108, 78, 109, 110, 111, 14, 112, 33, 34, 38, 42, 50, 52, 113, 114, 115, 116, 117, 32, 118, 57, 58, 119, 120, 2, 121, 122, 123, 124, 125, 126, 127, 128, 129, 130, 131, 132, 37, 133, 63, 64, 65, 134, 135, 136, 41, 137, 70, 71, 72, 138, 421, 189, 190, 191, 192, 193, 194, 195, 196, 197, 198, 199, 212, 213, 214, 215, 216, 217, 827, 828, 829, 830, 831, 832, 833, 834, 835, 858, 859, 860, 850, 851, 852, 853, 854, 855, 856, 857, 870, 871, 872, 873, 874, 875, 876, 877, 878, 879] (by decide +kernel) (by decide +kernel)
set_option maxRecDepth 20000 in
theorem gL_law_X6_forget : GoodIn wsL_law (wsV RL 38 RX6 yX6_forget wsX6_forget) := goodIn_app (goodIn_of _ (by decide +kernel)) ggL_law_X6_forget
set_option maxRecDepth 20000 in
theorem ggL_law_X7_forget : GoodIn wsL_law wsX7_forget := goodIn_r _ [425, 228, 229, 230, 5, 231, 232, 233, 90, 89, 242, 243, 244, 245, 246, 247, 248, 249, 250, 251, 252, 253, 836, 837, 838, 839, 840, 841, 842, 843, 844, 845, 846, 847, 848, 849] (by decide +kernel) (by decide +kernel)
set_option maxRecDepth 20000 in
theorem gL_law_X7_forget : GoodIn wsL_law (wsV RL 41 RX7 yX7_forget wsX7_forget) := goodIn_app (goodIn_of _ (by decide +kernel)) ggL_law_X7_forget
