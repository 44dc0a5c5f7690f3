set_option maxRecDepth 20000 in
theorem ggL_law_X7_fault : GoodIn wsL_law wsX7_fault := goodIn_r _ [719, 720, 721, 722, 723, 5, 724, 725, 537, 726, 727, 728, 729, 730, 731, 732, 733, 734, 735, 736, 737, 87, 738, 739, 740, 741, 156, 157, 158, 742, 743, 744, 745, 746, 747, 748, 749, 750, 751, 752, 753, 820, 821, 822, 823, 824, 825, 826, 827, 828, 829, 830, 831, 832, 833, 834, 835, 836] (by decide +kernel) (by decide +kernel)
set_option maxRecDepth 20000 in
theorem gL_law_X7_fault : GoodIn wsL_law (wsV RL 107 RX7 yX7_fault wsX7_fault) := goodIn_app (goodIn_of _ (by decide +kernel)) ggL_law_X7_fault
set_option maxRecDepth 20000 in
theorem ggL_law_X6_carryOut : GoodIn wsL_law wsX6_carryOut := goodIn_r _ [757, 28, 21, 16, 30, 511, 666, 667, 668, 27, 669, 670, 72, 671, 672, 673, 674, 675, 676, 677, 678, 679, 680, 681, 682, 683, 71, 684, 648, 77, 685, 686, 687, 688, 689, 690, 691, 692, 693, 694, 695, 696, 697, 698, 699, 700, 701, 702, 703, 704, 705, 706, 707, 708, 709, 710, 711, 712, 713, 714, 715, 94, 95, 96, 20, 97, 98, 64, 99, 100, 101, 15, 102, 38, 40, 44, 45, 46, 103, 104, 105, 106, 107, 108, 37, 109, 50, 51, 52, 53, 54, 110, 111, 112, 42, 113, 114, 115, 116, 117, 118, 119, 120, 121, 122, 123, 124, 58, 758, 759, 760, 761, 762, 2, 763, 764, 765, 766, 767, 174, 175, 176, 177, 178, 231, 232, 233, 234, 235, 211, 212, 213, 214, 236, 237, 238, 239, 240, 241, 242, 243, 244, 245, 246, 247, 248, 249, 250, 251, 252, 253, 254, 255, 256, 257, 150, 258, 259, 260, 261, 262, 263, 298, 299, 300, 301, 302, 303, 304, 305, 318, 319, 320, 321, 322, 323, 324, 325, 326, 327, 328, 329, 330, 331, 149, 151, 206, 207, 208, 209, 210, 344, 345, 346, 347, 348, 349, 350, 364, 365, 366, 367, 368, 369, 370, 371, 372, 373, 374, 375, 376, 377, 378, 379, 380, 381, 382, 383, 384, 385, 386, 387, 388, 389, 390, 391, 392, 393, 394, 395, 396, 397, 398, 399, 400, 401, 402, 403, 404, 405, 406, 407, 408, 409, 410, 411, 412, 140, 141, 142, 768, 136, 137, 138, 139, 143, 144, 145, 146, 147, 148, 813, 814, 815, 816, 817, 818, 819, 871, 872, 848, 849, 850, 851, 852, 853, 845, 846, 847, 837, 838, 839, 840, 841, 842, 843, 844, 854, 855, 856, 857, 858, 859, 860, 861, 862, 863, 864, 865, 866, 867, 868, 869, 870] (by decide +kernel) (by decide +kernel)
set_option maxRecDepth 20000 in
theorem gL_law_X6_carryOut : GoodIn wsL_law (wsV RL 108 RX6 yX6_carryOut wsX6_carryOut) := goodIn_app (goodIn_of _ (by decide +kernel)) ggL_law_X6_carryOut
set_option maxRecDepth 20000 in
theorem ggL_law_X7_carryOut : GoodIn wsL_law wsX7_carryOut := goodIn_r _ [772, 720, 537, 721, 722, 723, 5, 724, 725, 726, 727, 728, 729, 730, 731, 732, 733, 734, 735, 736, 737, 87, 738, 739, 740, 741, 156, 157, 158, 742, 743, 744, 745, 746, 747, 748, 749, 750, 751, 752, 753, 165, 166, 167, 168, 169, 84, 82, 773, 774, 775, 776, 268, 269, 270, 271, 223, 224, 225, 226, 272, 273, 274, 275, 276, 277, 278, 191, 192, 193, 279, 280, 281, 282, 283, 284, 285, 286, 287, 288, 289, 290, 291, 292, 293, 310, 311, 312, 313, 219, 220, 221, 222, 417, 418, 419, 420, 421, 422, 423, 424, 425, 426, 427, 428, 429, 430, 431, 432, 433, 88, 434, 435, 436, 437, 438, 439, 440, 441, 442, 443, 444, 445, 446, 447, 448, 449, 450, 187, 188, 189, 190, 336, 337, 338, 339, 355, 356, 357, 358, 359, 820, 821, 822, 823, 824, 825, 826, 827, 828, 829, 830, 831, 832, 833, 834, 835, 836] (by decide +kernel) (by decide +kernel)
set_option maxRecDepth 20000 in
theorem gL_law_X7_carryOut : GoodIn wsL_law (wsV RL 111 RX7 yX7_carryOut wsX7_carryOut) := goodIn_app (goodIn_of _ (by decide +kernel)) ggL_law_X7_carryOut
set_option maxRecDepth 20000 in
theorem ggL_law_X6_undo : GoodIn wsL_law wsX6_undo := goodIn_r _ [780, 21, 16, 512, 781, 782, 783, 20, 784, 147, 64, 785, 786, 787, 788, 98, 555, 100, 101, 15, 102, 38, 40, 44, 45, 46, 103, 104, 105, 106, 107, 108, 37, 109, 50, 51, 52, 53, 54, 110, 111, 112, 42, 113, 114, 115, 116, 117, 118, 119, 120, 121, 122, 123, 124, 58, 789, 790, 791, 792, 813, 814, 815, 816, 817, 818, 819, 845, 846, 847, 837, 838, 839, 840, 841, 842, 843, 844, 854, 855, 856, 857, 858, 859, 860, 861, 862, 863, 864, 865, 866, 867, 868, 869, 870] (by decide +kernel) (by decide +kernel)
set_option maxRecDepth 20000 in
theorem gL_law_X6_undo : GoodIn wsL_law (wsV RL 112 RX6 yX6_undo wsX6_undo) := goodIn_app (goodIn_of _ (by decide +kernel)) ggL_law_X6_undo
set_option maxRecDepth 20000 in
theorem ggL_law_X7_undo : GoodIn wsL_law wsX7_undo := goodIn_r _ [796, 169, 82, 84, 820, 821, 822, 823, 824, 825, 826, 827, 828, 829, 830, 831, 832, 833, 834, 835, 836] (by decide +kernel) (by decide +kernel)
set_option maxRecDepth 20000 in
theorem gL_law_X7_undo : GoodIn wsL_law (wsV RL 115 RX7 yX7_undo wsX7_undo) := goodIn_app (goodIn_of _ (by decide +kernel)) ggL_law_X7_undo
set_option maxRecDepth 20000 in
theorem ggL_law_X6_save : GoodIn wsL_law wsX6_save := goodIn_r _ [800, 22, 16, 24, 510, 555, 100, 101, 15, 102, 38, 40, 44, 45, 46, 103, 104, 105, 106, 107, 108, 37, 109, 50, 51, 52, 53, 54, 110, 111, 112, 42, 113, 114, 115, 116, 117, 118, 119, 120, 121, 122, 123, 124, 58, 813, 814, 815, 816, 817, 818, 819, 837, 838, 839, 840, 841, 842, 843, 844, 854, 855, 856, 857, 858, 859, 860, 861, 862, 863, 864, 865, 866, 867, 868, 869, 870] (by decide +kernel) (by decide +kernel)
set_option maxRecDepth 20000 in
theorem gL_law_X6_save : GoodIn wsL_law (wsV RL 116 RX6 yX6_save wsX6_save) := goodIn_app (goodIn_of _ (by decide +kernel)) ggL_law_X6_save
set_option maxRecDepth 20000 in
theorem ggL_law_X7_save : GoodIn wsL_law wsX7_save := goodIn_r _ [804, 85, 82, 86, 156, 157, 5, 158, 820, 821, 822, 823, 824, 825, 826, 827, 828, 829, 830, 831, 832, 833, 834, 835, 836] (by decide +kernel) (by decide +kernel)
set_option maxRecDepth 20000 in
theorem gL_law_X7_save : GoodIn wsL_law (wsV RL 119 RX7 yX7_save wsX7_save) := goodIn_app (goodIn_of _ (by decide +kernel)) ggL_law_X7_save
set_option maxRecDepth 20000 in
theorem ggL_law_X6_restore : GoodIn wsL_law wsX6_restore := goodIn_r _ [808, 24, 21, 16, 22, 510, 94, 95, 96, 20, 97, 98, 64, 99, 100, 101, 15, 102, 38, 40, 44, 45, 46, 103, 104, 105, 106, 107, 108, 37, 109, 50, 51, 52, 53, 54, 110, 111, 112, 42, 113, 114, 115, 116, 117, 118, 119, 120, 121, 122, 123, 124, 58, 555, 136, 137, 138, 2, 139, 140, 141, 142, 143, 144, 145, 146, 147, 148, 149, 150, 151, 813, 814, 815, 816, 817, 818, 819, 837, 838, 839, 840, 841, 842, 843, 844, 845, 846, 847, 854, 855, 856, 857, 858, 859, 860, 861, 862, 863, 864, 865, 866, 867, 868, 869, 870] (by decide +kernel) (by decide +kernel)
set_option maxRecDepth 20000 in
theorem gL_law_X6_restore : GoodIn wsL_law (wsV RL 120 RX6 yX6_restore wsX6_restore) := goodIn_app (goodIn_of _ (by decide +kernel)) ggL_law_X6_restore
set_option maxRecDepth 20000 in
theorem ggL_law_X7_restore : GoodIn wsL_law wsX7_restore := goodIn_r _ [812, 86, 82, 85, 156, 157, 5, 158, 165, 166, 167, 168, 169, 84, 820, 821, 822, 823, 824, 825, 826, 827, 828, 829, 830, 831, 832, 833, 834, 835, 836] (by decide +kernel) (by decide +kernel)
set_option maxRecDepth 20000 in
theorem gL_law_X7_restore : GoodIn wsL_law (wsV RL 123 RX7 yX7_restore wsX7_restore) := goodIn_app (goodIn_of _ (by decide +kernel)) ggL_law_X7_restore
