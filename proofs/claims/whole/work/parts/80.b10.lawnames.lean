set_option maxRecDepth 20000 in
theorem ggL_law_X7_bestGain : GoodIn wsL_law wsX7_bestGain := goodIn_r _ [624, 156, 157, 5, 158, 611, 612, 613, 614, 444, 445, 446, 447, 82, 290, 291, 292, 293, 448, 449, 450, 436, 437, 438, 439, 820, 821, 822, 823, 824, 825, 826, 827, 828, 829, 830, 831, 832, 833, 834, 835, 836] (by decide +kernel) (by decide +kernel)
set_option maxRecDepth 20000 in
theorem gL_law_X7_bestGain : GoodIn wsL_law (wsV RL 87 RX7 yX7_bestGain wsX7_bestGain) := goodIn_app (goodIn_of _ (by decide +kernel)) ggL_law_X7_bestGain
set_option maxRecDepth 20000 in
theorem ggL_law_X6_bears : GoodIn wsL_law wsX6_bears := goodIn_r _ [628, 16, 93, 461, 467, 212, 213, 15, 214, 103, 40, 589, 393, 394, 37, 395, 53, 54, 396, 260, 261, 262, 50, 52, 51, 813, 814, 815, 816, 817, 818, 819, 837, 838, 839, 840, 841, 842, 843, 844, 859, 860, 861, 862, 863, 864, 865, 866, 867, 868, 869, 870, 854, 855, 856, 857, 858] (by decide +kernel) (by decide +kernel)
set_option maxRecDepth 20000 in
theorem gL_law_X6_bears : GoodIn wsL_law (wsV RL 88 RX6 yX6_bears wsX6_bears) := goodIn_app (goodIn_of _ (by decide +kernel)) ggL_law_X6_bears
set_option maxRecDepth 20000 in
theorem ggL_law_X7_bears : GoodIn wsL_law wsX7_bears := goodIn_r _ [632, 82, 223, 224, 225, 5, 226, 156, 157, 158, 275, 276, 277, 278, 191, 192, 193, 290, 291, 292, 293, 436, 437, 438, 439, 820, 821, 822, 823, 824, 825, 826, 827, 828, 829, 830, 831, 832, 833, 834, 835, 836] (by decide +kernel) (by decide +kernel)
set_option maxRecDepth 20000 in
theorem gL_law_X7_bears : GoodIn wsL_law (wsV RL 91 RX7 yX7_bears wsX7_bears) := goodIn_app (goodIn_of _ (by decide +kernel)) ggL_law_X7_bears
set_option maxRecDepth 20000 in
theorem ggL_law_X6_put : GoodIn wsL_law wsX6_put := goodIn_r _ [636, 30, 511, 637, 638, 639, 71, 640, 641, 642, 643, 644, 645, 646, 647, 648, 77, 813, 814, 815, 816, 817, 818, 819, 871, 872] (by decide +kernel) (by decide +kernel)
set_option maxRecDepth 20000 in
theorem gL_law_X6_put : GoodIn wsL_law (wsV RL 94 RX6 yX6_put wsX6_put) := goodIn_app (goodIn_of _ (by decide +kernel)) ggL_law_X6_put
set_option maxRecDepth 20000 in
theorem ggL_law_X7_put : GoodIn wsL_law wsX7_put := goodIn_r _ [652, 653, 537, 87, 156, 157, 5, 158, 820, 821, 822, 823, 824, 825, 826, 827, 828, 829, 830, 831, 832, 833, 834, 835, 836] (by decide +kernel) (by decide +kernel)
set_option maxRecDepth 20000 in
theorem gL_law_X7_put : GoodIn wsL_law (wsV RL 98 RX7 yX7_put wsX7_put) := goodIn_app (goodIn_of _ (by decide +kernel)) ggL_law_X7_put
set_option maxRecDepth 20000 in
theorem ggL_law_X6_wipe : GoodIn wsL_law wsX6_wipe := goodIn_r _ [657, 30, 511, 813, 814, 815, 816, 817, 818, 819, 871, 872] (by decide +kernel) (by decide +kernel)
set_option maxRecDepth 20000 in
theorem gL_law_X6_wipe : GoodIn wsL_law (wsV RL 99 RX6 yX6_wipe wsX6_wipe) := goodIn_app (goodIn_of _ (by decide +kernel)) ggL_law_X6_wipe
