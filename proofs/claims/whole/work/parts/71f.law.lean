set_option maxRecDepth 20000 in
theorem ggL_law_X6_row : GoodIn wsL_law wsX6_row := goodIn_r _ [606, 15, 546, 152, 153, 14, 154, 34, 33, 607, 263, 264, 32, 265, 119, 148, 149, 2, 150, 608, 185, 186, 187, 57, 609, 181, 182, 183, 58, 610, 611, 612, 613, 42, 266, 204, 205, 206, 41, 207, 70, 352, 614, 615, 616, 617, 50, 618, 275, 276, 277, 113, 827, 828, 829, 830, 831, 832, 833, 834, 835, 850, 851, 852, 853, 854, 855, 856, 857, 870, 871, 872, 876, 877, 878, 879] (by decide +kernel) (by decide +kernel)
set_option maxRecDepth 20000 in
theorem gL_law_X6_row : GoodIn wsL_law (wsV RL 72 RX6 yX6_row wsX6_row) := goodIn_app (goodIn_of _ (by decide +kernel)) ggL_law_X6_row
set_option maxRecDepth 20000 in
theorem ggL_law_X7_row : GoodIn wsL_law wsX7_row := goodIn_r _ [622, 89, 282, 283, 284, 5, 285, 225, 226, 227, 286, 287, 288, 289, 304, 305, 306, 307, 250, 251, 252, 253, 377, 378, 379, 380, 381, 382, 383, 384, 836, 837, 838, 839, 840, 841, 842, 843, 844, 845, 846, 847, 848, 849] (by decide +kernel) (by decide +kernel)
set_option maxRecDepth 20000 in
theorem gL_law_X7_row : GoodIn wsL_law (wsV RL 75 RX7 yX7_row wsX7_row) := goodIn_app (goodIn_of _ (by decide +kernel)) ggL_law_X7_row
set_option maxRecDepth 20000 in
theorem ggL_law_X6_answer : GoodIn wsL_law wsX6_answer := goodIn_r _ [626, 15, 145, 146, 2, 147, 148, 149, 150, 627, 628, 629, 14, 630, 38, 631, 632, 633, 37, 634, 63, 64, 65, 635, 329, 330, 331, 827, 828, 829, 830, 831, 832, 833, 834, 835, 850, 851, 852, 853, 854, 855, 856, 857, 873, 874, 875] (by decide +kernel) (by decide +kernel)
set_option maxRecDepth 20000 in
theorem gL_law_X6_answer : GoodIn wsL_law (wsV RL 76 RX6 yX6_answer wsX6_answer) := goodIn_app (goodIn_of _ (by decide +kernel)) ggL_law_X6_answer
set_option maxRecDepth 20000 in
theorem ggL_law_X7_answer : GoodIn wsL_law wsX7_answer := goodIn_r _ [639, 225, 226, 5, 227, 640, 641, 642, 643, 373, 374, 375, 376, 89, 377, 378, 379, 380, 304, 305, 306, 307, 381, 382, 383, 384, 369, 370, 371, 372, 401, 402, 403, 404, 644, 645, 646, 647, 836, 837, 838, 839, 840, 841, 842, 843, 844, 845, 846, 847, 848, 849] (by decide +kernel) (by decide +kernel)
set_option maxRecDepth 20000 in
theorem gL_law_X7_answer : GoodIn wsL_law (wsV RL 79 RX7 yX7_answer wsX7_answer) := goodIn_app (goodIn_of _ (by decide +kernel)) ggL_law_X7_answer
set_option maxRecDepth 20000 in
theorem ggL_law_X6_remembered : GoodIn wsL_law wsX6_remembered := goodIn_r _ [651, 15, 145, 146, 2, 147, 148, 149, 150, 652, 653, 654, 14, 655, 42, 656, 205, 206, 41, 207, 70, 657, 658, 659, 660, 661, 662, 663, 664, 50, 665, 666, 667, 668, 348, 349, 350, 351, 72, 71, 627, 628, 629, 630, 38, 631, 632, 633, 37, 634, 63, 64, 65, 635, 329, 330, 331, 827, 828, 829, 830, 831, 832, 833, 834, 835, 850, 851, 852, 853, 854, 855, 856, 857, 876, 877, 878, 879, 873, 874, 875] (by decide +kernel) (by decide +kernel)
set_option maxRecDepth 20000 in
theorem gL_law_X6_remembered : GoodIn wsL_law (wsV RL 80 RX6 yX6_remembered wsX6_remembered) := goodIn_app (goodIn_of _ (by decide +kernel)) ggL_law_X6_remembered
set_option maxRecDepth 20000 in
theorem ggL_law_X7_remembered : GoodIn wsL_law wsX7_remembered := goodIn_r _ [672, 89, 225, 226, 5, 227, 250, 251, 252, 253, 673, 674, 675, 676, 393, 394, 395, 396, 640, 641, 642, 643, 373, 374, 375, 376, 377, 378, 379, 380, 304, 305, 306, 307, 381, 382, 383, 384, 369, 370, 371, 372, 401, 402, 403, 404, 644, 645, 646, 647, 836, 837, 838, 839, 840, 841, 842, 843, 844, 845, 846, 847, 848, 849] (by decide +kernel) (by decide +kernel)
set_option maxRecDepth 20000 in
theorem gL_law_X7_remembered : GoodIn wsL_law (wsV RL 83 RX7 yX7_remembered wsX7_remembered) := goodIn_app (goodIn_of _ (by decide +kernel)) ggL_law_X7_remembered
set_option maxRecDepth 20000 in
theorem ggL_law_X6_count : GoodIn wsL_law wsX6_count := goodIn_r _ [680, 15, 25, 21, 546, 152, 153, 14, 154, 34, 33, 547, 156, 157, 32, 158, 119, 652, 653, 654, 655, 42, 681, 197, 198, 41, 199, 70, 682, 341, 342, 343, 38, 204, 205, 206, 207, 328, 329, 330, 37, 331, 63, 683, 684, 685, 686, 113, 687, 688, 689, 690, 114, 661, 662, 663, 664, 50, 691, 692, 693, 24, 694, 451, 695, 696, 697, 20, 698, 216, 148, 149, 2, 150, 699, 700, 701, 702, 52, 827, 828, 829, 830, 831, 832, 833, 834, 835, 850, 851, 852, 853, 854, 855, 856, 857, 870, 871, 872, 876, 877, 878, 879, 873, 874, 875, 861, 862, 863, 864, 865, 866, 867, 868, 869, 858, 859, 860] (by decide +kernel) (by decide +kernel)
set_option maxRecDepth 20000 in
theorem gL_law_X6_count : GoodIn wsL_law (wsV RL 84 RX6 yX6_count wsX6_count) := goodIn_app (goodIn_of _ (by decide +kernel)) ggL_law_X6_count
