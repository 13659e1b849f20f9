set_option maxRecDepth 20000 in
theorem ggL_law_X5_look : GoodIn wsL_law wsX5_look := goodIn_r _ [689, 35, 15, 102, 103, 2, 104, 629, 630, 631, 34, 632, 73, 74, 633, 634, 635, 636, 637, 638, 639, 640, 641, 322, 323, 324, 642, 500, 501, 643, 644, 645, 646, 446, 447, 14, 448, 42, 449, 450, 451, 452, 41, 329, 330, 331, 332, 43, 647, 326, 327, 328, 648, 649, 650, 651, 652, 653, 654, 655, 656, 657, 658, 659, 660, 661, 690, 691, 692, 693, 75, 812, 813, 814, 815, 816, 817, 818, 819, 873, 874, 875, 842, 843, 844, 845, 846, 847, 848, 849, 850, 851, 852, 853, 854, 855] (by decide +kernel) (by decide +kernel)
set_option maxRecDepth 20000 in
theorem gL_law_X5_look : GoodIn wsL_law (wsV RL 109 RX5 yX5_look wsX5_look) := goodIn_app (goodIn_of _ (by decide +kernel)) ggL_law_X5_look
set_option maxRecDepth 20000 in
theorem ggL_law_X6_look : GoodIn wsL_law wsX6_look := goodIn_r _ [697, 534, 89, 124, 125, 5, 126, 674, 675, 676, 677, 88, 130, 131, 132, 133, 81, 80, 134, 135, 136, 359, 360, 361, 362, 678, 679, 680, 681, 616, 84, 682, 683, 684, 685, 820, 821, 822, 823, 824, 825, 826, 827, 828, 829, 830, 831, 832, 833, 834, 835, 836, 837, 838, 839, 840, 841] (by decide +kernel) (by decide +kernel)
set_option maxRecDepth 20000 in
theorem gL_law_X6_look : GoodIn wsL_law (wsV RL 112 RX6 yX6_look wsX6_look) := goodIn_app (goodIn_of _ (by decide +kernel)) ggL_law_X6_look
set_option maxRecDepth 20000 in
theorem ggL_law_X5_snuff : GoodIn wsL_law wsX5_snuff := goodIn_r _ [701, 15, 432, 102, 103, 2, 104, 702, 703, 704, 466, 52, 53, 563, 315, 316, 705, 706, 707, 708, 812, 813, 814, 815, 816, 817, 818, 819, 842, 843, 844, 845, 846, 847, 848, 849, 850, 851, 852, 853, 854, 855] (by decide +kernel) (by decide +kernel)
set_option maxRecDepth 20000 in
theorem gL_law_X5_snuff : GoodIn wsL_law (wsV RL 113 RX5 yX5_snuff wsX5_snuff) := goodIn_app (goodIn_of _ (by decide +kernel)) ggL_law_X5_snuff
set_option maxRecDepth 20000 in
theorem ggL_law_X6_snuff : GoodIn wsL_law wsX6_snuff := goodIn_r _ [712, 80, 124, 125, 5, 126, 713, 714, 715, 716, 90, 91, 356, 357, 358, 717, 718, 719, 720, 820, 821, 822, 823, 824, 825, 826, 827, 828, 829, 830, 831, 832, 833, 834, 835, 836, 837, 838, 839, 840, 841] (by decide +kernel) (by decide +kernel)
set_option maxRecDepth 20000 in
theorem gL_law_X6_snuff : GoodIn wsL_law (wsV RL 116 RX6 yX6_snuff wsX6_snuff) := goodIn_app (goodIn_of _ (by decide +kernel)) ggL_law_X6_snuff
set_option maxRecDepth 20000 in
theorem ggL_law_X5_moths : GoodIn wsL_law wsX5_moths := goodIn_r _ [724, 15, 725, 726, 727, 99, 100, 2, 101, 102, 103, 104, 415, 284, 285, 14, 286, 112, 728, 729, 730, 731, 732, 733, 734, 735, 283, 736, 446, 447, 448, 42, 449, 450, 451, 452, 41, 329, 330, 331, 332, 43, 737, 738, 739, 740, 812, 813, 814, 815, 816, 817, 818, 819, 842, 843, 844, 845, 846, 847, 848, 849, 850, 851, 852, 853, 854, 855] (by decide +kernel) (by decide +kernel)
set_option maxRecDepth 20000 in
theorem gL_law_X5_moths : GoodIn wsL_law (wsV RL 117 RX5 yX5_moths wsX5_moths) := goodIn_app (goodIn_of _ (by decide +kernel)) ggL_law_X5_moths
set_option maxRecDepth 20000 in
theorem ggL_law_X6_moths : GoodIn wsL_law wsX6_moths := goodIn_r _ [744, 80, 745, 746, 747, 121, 122, 5, 123, 124, 125, 126, 356, 357, 358, 457, 458, 459, 460, 130, 131, 132, 133, 81, 134, 135, 136, 359, 360, 361, 362, 748, 749, 750, 820, 821, 822, 823, 824, 825, 826, 827, 828, 829, 830, 831, 832, 833, 834, 835, 836, 837, 838, 839, 840, 841] (by decide +kernel) (by decide +kernel)
set_option maxRecDepth 20000 in
theorem gL_law_X6_moths : GoodIn wsL_law (wsV RL 121 RX6 yX6_moths wsX6_moths) := goodIn_app (goodIn_of _ (by decide +kernel)) ggL_law_X6_moths
set_option maxRecDepth 20000 in
theorem ggL_law_X5_ship : GoodIn wsL_law wsX5_ship := goodIn_r _ [754, 726, 755, 322, 323, 324, 102, 103, 2, 104, 738, 739, 740] (by decide +kernel) (by decide +kernel)
set_option maxRecDepth 20000 in
theorem gL_law_X5_ship : GoodIn wsL_law (wsV RL 122 RX5 yX5_ship wsX5_ship) := goodIn_app (goodIn_of _ (by decide +kernel)) ggL_law_X5_ship
set_option maxRecDepth 20000 in
theorem ggL_law_X6_ship : GoodIn wsL_law wsX6_ship := goodIn_r _ [759, 746, 760, 124, 125, 5, 126, 748, 749, 750] (by decide +kernel) (by decide +kernel)
set_option maxRecDepth 20000 in
theorem gL_law_X6_ship : GoodIn wsL_law (wsV RL 125 RX6 yX6_ship wsX6_ship) := goodIn_app (goodIn_of _ (by decide +kernel)) ggL_law_X6_ship
set_option maxRecDepth 20000 in
theorem ggL_law_X5_year : GoodIn wsL_law wsX5_year := goodIn_r _ [764, 27, 15, 434, 395, 432, 102, 103, 2, 104, 765, 766, 767, 26, 768, 769, 253, 254, 255, 256, 62, 257, 258, 259, 260, 261, 262, 263, 264, 14, 265, 41, 266, 267, 268, 269, 42, 43, 44, 45, 46, 47, 48, 49, 50, 270, 112, 51, 271, 100, 101, 273, 274, 275, 276, 277, 278, 279, 280, 281, 282, 283, 284, 285, 286, 287, 288, 289, 290, 291, 292, 293, 294, 295, 296, 297, 298, 299, 300, 301, 302, 52, 53, 113, 114, 115, 116, 303, 304, 305, 306, 307, 308, 309, 310, 311, 312, 313, 314, 315, 316, 317, 318, 319, 320, 321, 322, 323, 324, 325, 326, 327, 328, 329, 330, 331, 332, 333, 334, 335, 336, 770, 771, 772, 773, 564, 565, 566, 567, 568, 569, 570, 812, 813, 814, 815, 816, 817, 818, 819, 862, 863, 864, 865, 866, 867, 842, 843, 844, 845, 846, 847, 848, 849, 850, 851, 852, 853, 854, 855] (by decide +kernel) (by decide +kernel)
set_option maxRecDepth 20000 in
theorem gL_law_X5_year : GoodIn wsL_law (wsV RL 126 RX5 yX5_year wsX5_year) := goodIn_app (goodIn_of _ (by decide +kernel)) ggL_law_X5_year
set_option maxRecDepth 20000 in
theorem ggL_law_X6_year : GoodIn wsL_law wsX6_year := goodIn_r _ [777, 778, 81, 134, 124, 125, 5, 126, 130, 131, 132, 133, 80, 135, 136, 387, 388, 389, 390, 352, 353, 354, 355, 356, 357, 358, 371, 372, 373, 374, 137, 138, 139, 140, 375, 376, 377, 378, 379, 380, 381, 382, 83, 82, 383, 384, 385, 386, 363, 364, 365, 366, 348, 349, 350, 351, 347, 359, 360, 361, 362, 575, 576, 577, 820, 821, 822, 823, 824, 825, 826, 827, 828, 829, 830, 831, 832, 833, 834, 835, 836, 837, 838, 839, 840, 841] (by decide +kernel) (by decide +kernel)
set_option maxRecDepth 20000 in
theorem gL_law_X6_year : GoodIn wsL_law (wsV RL 130 RX6 yX6_year wsX6_year) := goodIn_app (goodIn_of _ (by decide +kernel)) ggL_law_X6_year
set_option maxRecDepth 20000 in
theorem ggL_law_X5_image : GoodIn wsL_law wsX5_image := goodIn_r _ [782, 15, 19, 102, 103, 2, 104, 783, 784, 785, 786, 16, 17, 400, 263, 264, 14, 265, 41, 266, 267, 268, 269, 42, 43, 44, 45, 46, 47, 48, 49, 50, 270, 112, 51, 271, 812, 813, 814, 815, 816, 817, 818, 819, 842, 843, 844, 845, 846, 847, 848, 849, 850, 851, 852, 853, 854, 855] (by decide +kernel) (by decide +kernel)
set_option maxRecDepth 20000 in
theorem gL_law_X5_image : GoodIn wsL_law (wsV RL 131 RX5 yX5_image wsX5_image) := goodIn_app (goodIn_of _ (by decide +kernel)) ggL_law_X5_image
set_option maxRecDepth 20000 in
theorem ggL_law_X6_image : GoodIn wsL_law wsX6_image := goodIn_r _ [790, 92, 80, 82, 83, 84, 616, 93, 124, 125, 5, 126, 820, 821, 822, 823, 824, 825, 826, 827, 828, 829, 830, 831, 832, 833, 834, 835, 836, 837, 838, 839, 840, 841] (by decide +kernel) (by decide +kernel)
set_option maxRecDepth 20000 in
theorem gL_law_X6_image : GoodIn wsL_law (wsV RL 134 RX6 yX6_image wsX6_image) := goodIn_app (goodIn_of _ (by decide +kernel)) ggL_law_X6_image
set_option maxRecDepth 20000 in
theorem ggL_law_X5_restore : GoodIn wsL_law wsX5_restore := goodIn_r _ [794, 19, 15, 102, 103, 2, 104, 783, 784, 785, 786, 16, 17, 400, 263, 264, 14, 265, 41, 266, 267, 268, 269, 42, 43, 44, 45, 46, 47, 48, 49, 50, 270, 112, 51, 271, 812, 813, 814, 815, 816, 817, 818, 819, 842, 843, 844, 845, 846, 847, 848, 849, 850, 851, 852, 853, 854, 855] (by decide +kernel) (by decide +kernel)
set_option maxRecDepth 20000 in
theorem gL_law_X5_restore : GoodIn wsL_law (wsV RL 135 RX5 yX5_restore wsX5_restore) := goodIn_app (goodIn_of _ (by decide +kernel)) ggL_law_X5_restore
set_option maxRecDepth 20000 in
theorem ggL_law_X6_restore : GoodIn wsL_law wsX6_restore := goodIn_r _ [798, 93, 80, 92, 82, 83, 84, 616, 124, 125, 5, 126, 820, 821, 822, 823, 824, 825, 826, 827, 828, 829, 830, 831, 832, 833, 834, 835, 836, 837, 838, 839, 840, 841] (by decide +kernel) (by decide +kernel)
set_option maxRecDepth 20000 in
theorem gL_law_X6_restore : GoodIn wsL_law (wsV RL 138 RX6 yX6_restore wsX6_restore) := goodIn_app (goodIn_of _ (by decide +kernel)) ggL_law_X6_restore
set_option maxRecDepth 20000 in
theorem ggL_law_X5_told : GoodIn wsL_law wsX5_told := goodIn_r _ [802, 15, 154, 23, 172, 432, 163, 433, 607, 102, 103, 2, 104, 803, 804, 805, 806, 98, 414, 145, 475, 489, 413, 415, 284, 285, 14, 286, 112, 807, 326, 327, 328, 42, 329, 330, 331, 332, 43, 812, 813, 814, 815, 816, 817, 818, 819, 842, 843, 844, 845, 846, 847, 848, 849, 850, 851, 852, 853, 854, 855, 856, 857, 858, 859, 860, 861] (by decide +kernel) (by decide +kernel)
set_option maxRecDepth 20000 in
theorem gL_law_X5_told : GoodIn wsL_law (wsV RL 139 RX5 yX5_told wsX5_told) := goodIn_app (goodIn_of _ (by decide +kernel)) ggL_law_X5_told
set_option maxRecDepth 20000 in
theorem ggL_law_X6_told : GoodIn wsL_law wsX6_told := goodIn_r _ [811, 80, 82, 83, 182, 616, 121, 122, 5, 123, 124, 125, 126, 130, 131, 132, 133, 81, 134, 135, 136, 359, 360, 361, 362, 127, 128, 129, 820, 821, 822, 823, 824, 825, 826, 827, 828, 829, 830, 831, 832, 833, 834, 835, 836, 837, 838, 839, 840, 841] (by decide +kernel) (by decide +kernel)
set_option maxRecDepth 20000 in
theorem gL_law_X6_told : GoodIn wsL_law (wsV RL 142 RX6 yX6_told wsX6_told) := goodIn_app (goodIn_of _ (by decide +kernel)) ggL_law_X6_told
