set_option maxRecDepth 20000 in
theorem ggL_law_X7_nextStep : GoodIn wsL_law wsX7_nextStep := goodIn_r _ [593, 88, 434, 435, 156, 157, 5, 158, 183, 184, 185, 186, 83, 82, 422, 423, 424, 425, 426, 427, 428, 429, 279, 280, 281, 282, 275, 276, 277, 278, 191, 192, 193, 283, 284, 285, 286, 287, 288, 289, 290, 291, 292, 293, 430, 431, 432, 433, 436, 437, 438, 439, 440, 441, 442, 443, 444, 445, 446, 447, 448, 449, 450, 198, 199, 200, 201, 820, 821, 822, 823, 824, 825, 826, 827, 828, 829, 830, 831, 832, 833, 834, 835, 836] (by decide +kernel) (by decide +kernel)
set_option maxRecDepth 20000 in
theorem gL_law_X7_nextStep : GoodIn wsL_law (wsV RL 79 RX7 yX7_nextStep wsX7_nextStep) := goodIn_app (goodIn_of _ (by decide +kernel)) ggL_law_X7_nextStep
set_option maxRecDepth 20000 in
theorem ggL_law_X6_moveOf : GoodIn wsL_law wsX6_moveOf := goodIn_r _ [597, 16, 93, 598, 599, 600, 37, 601, 396, 260, 261, 262, 50, 52, 51, 602, 398, 399, 400, 401, 402, 150, 403, 404, 149, 151, 405, 406, 407, 408, 603, 604, 605, 606, 813, 814, 815, 816, 817, 818, 819, 837, 838, 839, 840, 841, 842, 843, 844, 854, 855, 856, 857, 858] (by decide +kernel) (by decide +kernel)
set_option maxRecDepth 20000 in
theorem gL_law_X6_moveOf : GoodIn wsL_law (wsV RL 80 RX6 yX6_moveOf wsX6_moveOf) := goodIn_app (goodIn_of _ (by decide +kernel)) ggL_law_X6_moveOf
set_option maxRecDepth 20000 in
theorem ggL_law_X7_moveOf : GoodIn wsL_law wsX7_moveOf := goodIn_r _ [610, 82, 156, 157, 5, 158, 611, 612, 613, 614, 444, 445, 446, 447, 290, 291, 292, 293, 448, 449, 450, 820, 821, 822, 823, 824, 825, 826, 827, 828, 829, 830, 831, 832, 833, 834, 835, 836] (by decide +kernel) (by decide +kernel)
set_option maxRecDepth 20000 in
theorem gL_law_X7_moveOf : GoodIn wsL_law (wsV RL 83 RX7 yX7_moveOf wsX7_moveOf) := goodIn_app (goodIn_of _ (by decide +kernel)) ggL_law_X7_moveOf
set_option maxRecDepth 20000 in
theorem ggL_law_X6_bestGain : GoodIn wsL_law wsX6_bestGain := goodIn_r _ [618, 17, 93, 16, 619, 620, 107, 108, 37, 109, 50, 51, 52, 53, 54, 603, 604, 605, 606, 404, 149, 150, 151, 405, 406, 407, 408, 589, 393, 394, 395, 396, 260, 261, 262, 813, 814, 815, 816, 817, 818, 819, 837, 838, 839, 840, 841, 842, 843, 844, 854, 855, 856, 857, 858] (by decide +kernel) (by decide +kernel)
set_option maxRecDepth 20000 in
theorem gL_law_X6_bestGain : GoodIn wsL_law (wsV RL 84 RX6 yX6_bestGain wsX6_bestGain) := goodIn_app (goodIn_of _ (by decide +kernel)) ggL_law_X6_bestGain
