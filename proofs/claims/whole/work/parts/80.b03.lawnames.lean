set_option maxRecDepth 20000 in
theorem ggL_law_X7_plan : GoodIn wsL_law wsX7_plan := goodIn_r _ [309, 183, 184, 185, 5, 186, 83, 82, 310, 311, 312, 313, 223, 224, 225, 226, 156, 157, 158, 272, 273, 274, 194, 195, 196, 197, 165, 166, 167, 168, 169, 84, 198, 199, 200, 201, 820, 821, 822, 823, 824, 825, 826, 827, 828, 829, 830, 831, 832, 833, 834, 835, 836] (by decide +kernel) (by decide +kernel)
set_option maxRecDepth 20000 in
theorem gL_law_X7_plan : GoodIn wsL_law (wsV RL 35 RX7 yX7_plan wsX7_plan) := goodIn_app (goodIn_of _ (by decide +kernel)) ggL_law_X7_plan
set_option maxRecDepth 20000 in
theorem ggL_law_X6_stop : GoodIn wsL_law wsX6_stop := goodIn_r _ [317, 21, 16, 94, 95, 96, 20, 97, 98, 64, 99, 100, 101, 15, 102, 38, 40, 44, 45, 46, 103, 104, 105, 106, 107, 108, 37, 109, 50, 51, 52, 53, 54, 110, 111, 112, 42, 113, 114, 115, 116, 117, 118, 119, 120, 121, 122, 123, 124, 58, 318, 319, 320, 321, 322, 211, 212, 213, 214, 239, 240, 241, 242, 323, 324, 325, 326, 327, 328, 329, 330, 331, 149, 150, 151, 136, 137, 138, 2, 139, 140, 141, 142, 143, 144, 145, 146, 147, 148, 813, 814, 815, 816, 817, 818, 819, 845, 846, 847, 837, 838, 839, 840, 841, 842, 843, 844, 854, 855, 856, 857, 858, 859, 860, 861, 862, 863, 864, 865, 866, 867, 868, 869, 870] (by decide +kernel) (by decide +kernel)
set_option maxRecDepth 20000 in
theorem gL_law_X6_stop : GoodIn wsL_law (wsV RL 36 RX6 yX6_stop wsX6_stop) := goodIn_app (goodIn_of _ (by decide +kernel)) ggL_law_X6_stop
set_option maxRecDepth 20000 in
theorem ggL_law_X7_stop : GoodIn wsL_law wsX7_stop := goodIn_r _ [335, 183, 184, 185, 5, 186, 83, 82, 336, 337, 338, 339, 223, 224, 225, 226, 156, 157, 158, 275, 276, 277, 278, 191, 192, 193, 194, 195, 196, 197, 165, 166, 167, 168, 169, 84, 198, 199, 200, 201, 820, 821, 822, 823, 824, 825, 826, 827, 828, 829, 830, 831, 832, 833, 834, 835, 836] (by decide +kernel) (by decide +kernel)
set_option maxRecDepth 20000 in
theorem gL_law_X7_stop : GoodIn wsL_law (wsV RL 39 RX7 yX7_stop wsX7_stop) := goodIn_app (goodIn_of _ (by decide +kernel)) ggL_law_X7_stop
set_option maxRecDepth 20000 in
theorem ggL_law_X6_home : GoodIn wsL_law wsX6_home := goodIn_r _ [343, 21, 16, 94, 95, 96, 20, 97, 98, 64, 99, 100, 101, 15, 102, 38, 40, 44, 45, 46, 103, 104, 105, 106, 107, 108, 37, 109, 50, 51, 52, 53, 54, 110, 111, 112, 42, 113, 114, 115, 116, 117, 118, 119, 120, 121, 122, 123, 124, 58, 344, 345, 346, 347, 348, 349, 350, 211, 212, 213, 214, 239, 240, 241, 242, 136, 137, 138, 2, 139, 140, 141, 142, 143, 144, 145, 146, 147, 148, 149, 150, 151, 813, 814, 815, 816, 817, 818, 819, 845, 846, 847, 837, 838, 839, 840, 841, 842, 843, 844, 854, 855, 856, 857, 858, 859, 860, 861, 862, 863, 864, 865, 866, 867, 868, 869, 870] (by decide +kernel) (by decide +kernel)
set_option maxRecDepth 20000 in
theorem gL_law_X6_home : GoodIn wsL_law (wsV RL 40 RX6 yX6_home wsX6_home) := goodIn_app (goodIn_of _ (by decide +kernel)) ggL_law_X6_home
