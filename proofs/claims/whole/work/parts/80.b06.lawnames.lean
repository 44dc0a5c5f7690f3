set_option maxRecDepth 20000 in
theorem ggL_law_X6_count : GoodIn wsL_law wsX6_count := goodIn_r _ [509, 16, 463, 510, 494, 93, 30, 511, 21, 512, 513, 514, 515, 15, 516, 40, 239, 240, 241, 42, 242, 119, 517, 518, 519, 520, 348, 349, 521, 522, 523, 524, 525, 526, 527, 528, 529, 530, 531, 406, 407, 37, 408, 50, 51, 52, 532, 133, 134, 135, 53, 54, 813, 814, 815, 816, 817, 818, 819, 837, 838, 839, 840, 841, 842, 843, 844, 871, 872, 845, 846, 847, 859, 860, 861, 862, 863, 864, 865, 866, 867, 868, 869, 870, 854, 855, 856, 857, 858] (by decide +kernel) (by decide +kernel)
set_option maxRecDepth 20000 in
theorem gL_law_X6_count : GoodIn wsL_law (wsV RL 60 RX6 yX6_count wsX6_count) := goodIn_app (goodIn_of _ (by decide +kernel)) ggL_law_X6_count
set_option maxRecDepth 20000 in
theorem ggL_law_X7_count : GoodIn wsL_law wsX7_count := goodIn_r _ [536, 82, 537, 169, 538, 539, 540, 5, 541, 275, 276, 277, 278, 191, 192, 193, 444, 445, 446, 447, 820, 821, 822, 823, 824, 825, 826, 827, 828, 829, 830, 831, 832, 833, 834, 835, 836] (by decide +kernel) (by decide +kernel)
set_option maxRecDepth 20000 in
theorem gL_law_X7_count : GoodIn wsL_law (wsV RL 63 RX7 yX7_count wsX7_count) := goodIn_app (goodIn_of _ (by decide +kernel)) ggL_law_X7_count
set_option maxRecDepth 20000 in
theorem ggL_law_X6_interval : GoodIn wsL_law wsX6_interval := goodIn_r _ [545, 16, 93, 546, 260, 261, 37, 262, 50, 52, 51, 813, 814, 815, 816, 817, 818, 819, 837, 838, 839, 840, 841, 842, 843, 844, 854, 855, 856, 857, 858] (by decide +kernel) (by decide +kernel)
set_option maxRecDepth 20000 in
theorem gL_law_X6_interval : GoodIn wsL_law (wsV RL 64 RX6 yX6_interval wsX6_interval) := goodIn_app (goodIn_of _ (by decide +kernel)) ggL_law_X6_interval
set_option maxRecDepth 20000 in
theorem ggL_law_X7_interval : GoodIn wsL_law wsX7_interval := goodIn_r _ [550, 82, 156, 157, 5, 158, 290, 291, 292, 293, 820, 821, 822, 823, 824, 825, 826, 827, 828, 829, 830, 831, 832, 833, 834, 835, 836] (by decide +kernel) (by decide +kernel)
set_option maxRecDepth 20000 in
theorem gL_law_X7_interval : GoodIn wsL_law (wsV RL 67 RX7 yX7_interval wsX7_interval) := goodIn_app (goodIn_of _ (by decide +kernel)) ggL_law_X7_interval
