set_option maxRecDepth 20000 in
theorem ggL_law_X7_save : GoodIn wsL_law wsX7_save := goodIn_r _ [817, 818, 91, 89, 308, 309, 310, 5, 311, 250, 251, 252, 253, 836, 837, 838, 839, 840, 841, 842, 843, 844, 845, 846, 847, 848, 849] (by decide +kernel) (by decide +kernel)
set_option maxRecDepth 20000 in
theorem gL_law_X7_save : GoodIn wsL_law (wsV RL 116 RX7 yX7_save wsX7_save) := goodIn_app (goodIn_of _ (by decide +kernel)) ggL_law_X7_save
set_option maxRecDepth 20000 in
theorem ggL_law_X6_restore : GoodIn wsL_law wsX6_restore := goodIn_r _ [822, 813, 21, 15, 17, 100, 101, 102, 20, 103, 104, 105, 106, 107, 108, 78, 109, 110, 111, 14, 112, 33, 34, 38, 42, 50, 52, 113, 114, 115, 116, 117, 32, 118, 57, 58, 119, 120, 2, 121, 122, 123, 124, 125, 126, 127, 128, 129, 130, 131, 132, 37, 133, 63, 64, 65, 134, 135, 136, 41, 137, 70, 71, 72, 138, 739, 652, 653, 654, 655, 681, 197, 198, 199, 212, 213, 214, 215, 216, 217, 827, 828, 829, 830, 831, 832, 833, 834, 835, 858, 859, 860, 850, 851, 852, 853, 854, 855, 856, 857, 870, 871, 872, 873, 874, 875, 876, 877, 878, 879] (by decide +kernel) (by decide +kernel)
set_option maxRecDepth 20000 in
theorem gL_law_X6_restore : GoodIn wsL_law (wsV RL 117 RX6 yX6_restore wsX6_restore) := goodIn_app (goodIn_of _ (by decide +kernel)) ggL_law_X6_restore
set_option maxRecDepth 20000 in
theorem ggL_law_X7_restore : GoodIn wsL_law wsX7_restore := goodIn_r _ [826, 818, 89, 91, 228, 229, 230, 5, 231, 232, 233, 90, 308, 309, 310, 311, 250, 251, 252, 253, 836, 837, 838, 839, 840, 841, 842, 843, 844, 845, 846, 847, 848, 849] (by decide +kernel) (by decide +kernel)
set_option maxRecDepth 20000 in
theorem gL_law_X7_restore : GoodIn wsL_law (wsV RL 120 RX7 yX7_restore wsX7_restore) := goodIn_app (goodIn_of _ (by decide +kernel)) ggL_law_X7_restore
