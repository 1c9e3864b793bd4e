set_option maxRecDepth 20000 in
theorem ggL_law_X7_count : GoodIn wsL_law wsX7_count := goodIn_r _ [706, 89, 456, 233, 308, 309, 310, 5, 311, 250, 251, 252, 253, 397, 398, 399, 400, 369, 370, 371, 372, 373, 374, 375, 376, 377, 378, 379, 380, 304, 305, 306, 307, 381, 382, 383, 384, 225, 226, 227, 836, 837, 838, 839, 840, 841, 842, 843, 844, 845, 846, 847, 848, 849] (by decide +kernel) (by decide +kernel)
set_option maxRecDepth 20000 in
theorem gL_law_X7_count : GoodIn wsL_law (wsV RL 87 RX7 yX7_count wsX7_count) := goodIn_app (goodIn_of _ (by decide +kernel)) ggL_law_X7_count
set_option maxRecDepth 20000 in
theorem ggL_law_X6_total : GoodIn wsL_law wsX6_total := goodIn_r _ [710, 15, 148, 149, 2, 150, 711, 712, 713, 14, 714, 33, 38, 155, 156, 157, 32, 158, 119, 352, 181, 182, 183, 58, 266, 185, 186, 187, 57, 353, 354, 355, 37, 356, 64, 715, 716, 717, 718, 34, 614, 615, 616, 617, 50, 827, 828, 829, 830, 831, 832, 833, 834, 835, 850, 851, 852, 853, 854, 855, 856, 857, 870, 871, 872, 873, 874, 875] (by decide +kernel) (by decide +kernel)
set_option maxRecDepth 20000 in
theorem gL_law_X6_total : GoodIn wsL_law (wsV RL 88 RX6 yX6_total wsX6_total) := goodIn_app (goodIn_of _ (by decide +kernel)) ggL_law_X6_total
set_option maxRecDepth 20000 in
theorem ggL_law_X7_total : GoodIn wsL_law wsX7_total := goodIn_r _ [722, 89, 225, 226, 5, 227, 401, 402, 403, 404, 377, 378, 379, 380, 304, 305, 306, 307, 381, 382, 383, 384, 836, 837, 838, 839, 840, 841, 842, 843, 844, 845, 846, 847, 848, 849] (by decide +kernel) (by decide +kernel)
set_option maxRecDepth 20000 in
theorem gL_law_X7_total : GoodIn wsL_law (wsV RL 91 RX7 yX7_total wsX7_total) := goodIn_app (goodIn_of _ (by decide +kernel)) ggL_law_X7_total
set_option maxRecDepth 20000 in
theorem ggL_law_X6_rate : GoodIn wsL_law wsX6_rate := goodIn_r _ [726, 15, 699, 700, 701, 14, 702, 52, 827, 828, 829, 830, 831, 832, 833, 834, 835, 850, 851, 852, 853, 854, 855, 856, 857] (by decide +kernel) (by decide +kernel)
set_option maxRecDepth 20000 in
theorem gL_law_X6_rate : GoodIn wsL_law (wsV RL 92 RX6 yX6_rate wsX6_rate) := goodIn_app (goodIn_of _ (by decide +kernel)) ggL_law_X6_rate
set_option maxRecDepth 20000 in
theorem ggL_law_X7_rate : GoodIn wsL_law wsX7_rate := goodIn_r _ [730, 89, 836, 837, 838, 839, 840, 841, 842, 843, 844, 845, 846, 847, 848, 849] (by decide +kernel) (by decide +kernel)
set_option maxRecDepth 20000 in
theorem gL_law_X7_rate : GoodIn wsL_law (wsV RL 96 RX7 yX7_rate wsX7_rate) := goodIn_app (goodIn_of _ (by decide +kernel)) ggL_law_X7_rate
set_option maxRecDepth 20000 in
theorem ggL_law_X6_ifBound : GoodIn wsL_law wsX6_ifBound := goodIn_r _ [734, 148, 149, 2, 150, 735, 736, 737, 738, 16, 15, 739, 110, 111, 14, 112, 33, 34, 38, 42, 50, 52, 113, 114, 115, 116, 117, 32, 118, 57, 58, 119, 120, 121, 122, 123, 124, 125, 126, 127, 128, 129, 130, 131, 132, 37, 133, 63, 64, 65, 134, 135, 136, 41, 137, 70, 71, 72, 138, 430, 431, 432, 433, 434, 336, 337, 338, 339, 340, 341, 342, 343, 204, 205, 206, 207, 328, 329, 330, 331, 344, 345, 346, 347, 348, 349, 350, 351, 208, 209, 210, 211, 171, 172, 173, 174, 175, 176, 177, 178, 179, 156, 157, 158, 180, 181, 182, 183, 184, 185, 186, 187, 188, 189, 190, 191, 192, 193, 194, 195, 196, 197, 198, 199, 316, 317, 318, 319, 155, 266, 320, 321, 322, 323, 324, 325, 326, 327, 332, 333, 334, 335, 352, 353, 354, 355, 356, 740, 741, 742, 743, 699, 700, 701, 702, 827, 828, 829, 830, 831, 832, 833, 834, 835, 850, 851, 852, 853, 854, 855, 856, 857, 870, 871, 872, 873, 874, 875, 876, 877, 878, 879] (by decide +kernel) (by decide +kernel)
set_option maxRecDepth 20000 in
theorem gL_law_X6_ifBound : GoodIn wsL_law (wsV RL 97 RX6 yX6_ifBound wsX6_ifBound) := goodIn_app (goodIn_of _ (by decide +kernel)) ggL_law_X6_ifBound
set_option maxRecDepth 20000 in
theorem ggL_law_X7_ifBound : GoodIn wsL_law wsX7_ifBound := goodIn_r _ [747, 89, 225, 226, 5, 227, 748, 749, 750, 751, 92, 439, 440, 441, 442, 385, 386, 387, 388, 389, 390, 391, 392, 250, 251, 252, 253, 393, 394, 395, 396, 397, 398, 399, 400, 369, 370, 371, 372, 373, 374, 375, 376, 377, 378, 379, 380, 304, 305, 306, 307, 381, 382, 383, 384, 242, 243, 244, 245, 246, 247, 248, 249, 361, 362, 363, 364, 365, 366, 367, 368, 401, 402, 403, 404, 752, 753, 754, 755, 836, 837, 838, 839, 840, 841, 842, 843, 844, 845, 846, 847, 848, 849] (by decide +kernel) (by decide +kernel)
set_option maxRecDepth 20000 in
theorem gL_law_X7_ifBound : GoodIn wsL_law (wsV RL 100 RX7 yX7_ifBound wsX7_ifBound) := goodIn_app (goodIn_of _ (by decide +kernel)) ggL_law_X7_ifBound
