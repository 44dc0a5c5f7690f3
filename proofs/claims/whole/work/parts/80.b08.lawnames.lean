set_option maxRecDepth 20000 in
theorem ggL_law_X6_stopsAt : GoodIn wsL_law wsX6_stopsAt := goodIn_r _ [575, 16, 456, 467, 212, 213, 15, 214, 103, 40, 576, 328, 329, 42, 330, 119, 120, 331, 149, 150, 151, 469, 470, 471, 472, 116, 118, 114, 813, 814, 815, 816, 817, 818, 819, 837, 838, 839, 840, 841, 842, 843, 844, 859, 860, 861, 862, 863, 864, 865, 866, 867, 868, 869, 870] (by decide +kernel) (by decide +kernel)
set_option maxRecDepth 20000 in
theorem gL_law_X6_stopsAt : GoodIn wsL_law (wsV RL 72 RX6 yX6_stopsAt wsX6_stopsAt) := goodIn_app (goodIn_of _ (by decide +kernel)) ggL_law_X6_stopsAt
set_option maxRecDepth 20000 in
theorem ggL_law_X7_stopsAt : GoodIn wsL_law wsX7_stopsAt := goodIn_r _ [580, 82, 223, 224, 225, 5, 226, 156, 157, 158, 191, 192, 193, 275, 276, 277, 278, 477, 478, 479, 480, 359, 820, 821, 822, 823, 824, 825, 826, 827, 828, 829, 830, 831, 832, 833, 834, 835, 836] (by decide +kernel) (by decide +kernel)
set_option maxRecDepth 20000 in
theorem gL_law_X7_stopsAt : GoodIn wsL_law (wsV RL 75 RX7 yX7_stopsAt wsX7_stopsAt) := goodIn_app (goodIn_of _ (by decide +kernel)) ggL_law_X7_stopsAt
set_option maxRecDepth 20000 in
theorem ggL_law_X6_nextStep : GoodIn wsL_law wsX6_nextStep := goodIn_r _ [584, 17, 16, 463, 93, 461, 459, 555, 100, 101, 15, 102, 38, 40, 44, 45, 46, 103, 104, 105, 106, 107, 108, 37, 109, 50, 51, 52, 53, 54, 110, 111, 112, 42, 113, 114, 115, 116, 117, 118, 119, 120, 121, 122, 123, 124, 58, 585, 586, 587, 588, 369, 370, 371, 372, 373, 374, 375, 149, 150, 151, 239, 240, 241, 242, 376, 377, 378, 379, 211, 212, 213, 214, 247, 248, 249, 250, 251, 252, 253, 254, 255, 256, 257, 258, 259, 260, 261, 262, 263, 244, 245, 246, 302, 303, 304, 305, 384, 385, 386, 387, 380, 381, 382, 383, 388, 389, 390, 391, 392, 393, 394, 395, 396, 397, 398, 399, 400, 401, 402, 403, 404, 405, 406, 407, 408, 409, 410, 411, 412, 467, 589, 813, 814, 815, 816, 817, 818, 819, 837, 838, 839, 840, 841, 842, 843, 844, 859, 860, 861, 862, 863, 864, 865, 866, 867, 868, 869, 870, 854, 855, 856, 857, 858] (by decide +kernel) (by decide +kernel)
set_option maxRecDepth 20000 in
theorem gL_law_X6_nextStep : GoodIn wsL_law (wsV RL 76 RX6 yX6_nextStep wsX6_nextStep) := goodIn_app (goodIn_of _ (by decide +kernel)) ggL_law_X6_nextStep
