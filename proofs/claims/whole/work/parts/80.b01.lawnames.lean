set_option maxRecDepth 20000 in
theorem ggL_law_X6_shaft : GoodIn wsL_law wsX6_shaft := goodIn_r _ [173, 21, 16, 94, 95, 96, 20, 97, 98, 64, 99, 100, 101, 15, 102, 38, 40, 44, 45, 46, 103, 104, 105, 106, 107, 108, 37, 109, 50, 51, 52, 53, 54, 110, 111, 112, 42, 113, 114, 115, 116, 117, 118, 119, 120, 121, 122, 123, 124, 58, 174, 175, 176, 177, 178, 136, 137, 138, 2, 139, 140, 141, 142, 143, 144, 145, 146, 147, 148, 149, 150, 151, 813, 814, 815, 816, 817, 818, 819, 845, 846, 847, 837, 838, 839, 840, 841, 842, 843, 844, 854, 855, 856, 857, 858, 859, 860, 861, 862, 863, 864, 865, 866, 867, 868, 869, 870] (by decide +kernel) (by decide +kernel)
set_option maxRecDepth 20000 in
theorem gL_law_X6_shaft : GoodIn wsL_law (wsV RL 18 RX6 yX6_shaft wsX6_shaft) := goodIn_app (goodIn_of _ (by decide +kernel)) ggL_law_X6_shaft
set_option maxRecDepth 20000 in
theorem ggL_law_X7_shaft : GoodIn wsL_law wsX7_shaft := goodIn_r _ [182, 183, 184, 185, 5, 186, 83, 82, 187, 188, 189, 190, 191, 192, 193, 194, 195, 196, 197, 165, 166, 167, 168, 169, 84, 198, 199, 200, 201, 820, 821, 822, 823, 824, 825, 826, 827, 828, 829, 830, 831, 832, 833, 834, 835, 836] (by decide +kernel) (by decide +kernel)
set_option maxRecDepth 20000 in
theorem gL_law_X7_shaft : GoodIn wsL_law (wsV RL 22 RX7 yX7_shaft wsX7_shaft) := goodIn_app (goodIn_of _ (by decide +kernel)) ggL_law_X7_shaft
set_option maxRecDepth 20000 in
theorem ggL_law_X6_load : GoodIn wsL_law wsX6_load := goodIn_r _ [205, 21, 16, 94, 95, 96, 20, 97, 98, 64, 99, 100, 101, 15, 102, 38, 40, 44, 45, 46, 103, 104, 105, 106, 107, 108, 37, 109, 50, 51, 52, 53, 54, 110, 111, 112, 42, 113, 114, 115, 116, 117, 118, 119, 120, 121, 122, 123, 124, 58, 206, 207, 208, 209, 210, 211, 212, 213, 214, 136, 137, 138, 2, 139, 140, 141, 142, 143, 144, 145, 146, 147, 148, 149, 150, 151, 813, 814, 815, 816, 817, 818, 819, 845, 846, 847, 837, 838, 839, 840, 841, 842, 843, 844, 854, 855, 856, 857, 858, 859, 860, 861, 862, 863, 864, 865, 866, 867, 868, 869, 870] (by decide +kernel) (by decide +kernel)
set_option maxRecDepth 20000 in
theorem gL_law_X6_load : GoodIn wsL_law (wsV RL 23 RX6 yX6_load wsX6_load) := goodIn_app (goodIn_of _ (by decide +kernel)) ggL_law_X6_load
set_option maxRecDepth 20000 in
theorem ggL_law_X7_load : GoodIn wsL_law wsX7_load := goodIn_r _ [218, 183, 184, 185, 5, 186, 83, 82, 219, 220, 221, 222, 223, 224, 225, 226, 156, 157, 158, 191, 192, 193, 194, 195, 196, 197, 165, 166, 167, 168, 169, 84, 198, 199, 200, 201, 820, 821, 822, 823, 824, 825, 826, 827, 828, 829, 830, 831, 832, 833, 834, 835, 836] (by decide +kernel) (by decide +kernel)
set_option maxRecDepth 20000 in
theorem gL_law_X7_load : GoodIn wsL_law (wsV RL 26 RX7 yX7_load wsX7_load) := goodIn_app (goodIn_of _ (by decide +kernel)) ggL_law_X7_load
