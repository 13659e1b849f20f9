set_option maxRecDepth 20000 in
theorem ggL_law_X5_net : GoodIn wsL_law wsX5_net := goodIn_r _ [487, 488, 15, 475, 413, 489, 105, 106, 2, 107, 102, 103, 104, 415, 284, 285, 14, 286, 112, 812, 813, 814, 815, 816, 817, 818, 819, 842, 843, 844, 845, 846, 847, 848, 849, 850, 851, 852, 853, 854, 855] (by decide +kernel) (by decide +kernel)
set_option maxRecDepth 20000 in
theorem gL_law_X5_net : GoodIn wsL_law (wsV RL 77 RX5 yX5_net wsX5_net) := goodIn_app (goodIn_of _ (by decide +kernel)) ggL_law_X5_net
set_option maxRecDepth 20000 in
theorem ggL_law_X6_net : GoodIn wsL_law wsX6_net := goodIn_r _ [493, 494, 80, 82, 83, 127, 128, 5, 129, 124, 125, 126, 356, 357, 358, 820, 821, 822, 823, 824, 825, 826, 827, 828, 829, 830, 831, 832, 833, 834, 835, 836, 837, 838, 839, 840, 841] (by decide +kernel) (by decide +kernel)
set_option maxRecDepth 20000 in
theorem gL_law_X6_net : GoodIn wsL_law (wsV RL 80 RX6 yX6_net wsX6_net) := goodIn_app (goodIn_of _ (by decide +kernel)) ggL_law_X6_net
set_option maxRecDepth 20000 in
theorem ggL_law_X5_round : GoodIn wsL_law wsX5_round := goodIn_r _ [498, 31, 15, 499, 500, 323, 501, 502, 99, 100, 2, 101, 102, 103, 104, 503, 504, 505, 30, 506, 507, 508, 67, 509, 510, 511, 322, 324, 512, 477, 478, 14, 479, 46, 283, 284, 285, 286, 112, 513, 446, 447, 448, 42, 449, 450, 451, 452, 41, 329, 330, 331, 332, 43, 514, 515, 516, 517, 68, 69, 518, 519, 520, 521, 522, 523, 524, 525, 526, 527, 528, 529, 812, 813, 814, 815, 816, 817, 818, 819, 868, 869, 870, 871, 872, 842, 843, 844, 845, 846, 847, 848, 849, 850, 851, 852, 853, 854, 855] (by decide +kernel) (by decide +kernel)
set_option maxRecDepth 20000 in
theorem gL_law_X5_round : GoodIn wsL_law (wsV RL 81 RX5 yX5_round wsX5_round) := goodIn_app (goodIn_of _ (by decide +kernel)) ggL_law_X5_round
set_option maxRecDepth 20000 in
theorem ggL_law_X6_round : GoodIn wsL_law wsX6_round := goodIn_r _ [533, 534, 121, 122, 5, 123, 124, 125, 126, 535, 536, 537, 538, 80, 356, 357, 358, 539, 540, 541, 542, 86, 543, 544, 545, 546, 457, 458, 459, 460, 130, 131, 132, 133, 81, 134, 135, 136, 359, 360, 361, 362, 547, 548, 549, 550, 820, 821, 822, 823, 824, 825, 826, 827, 828, 829, 830, 831, 832, 833, 834, 835, 836, 837, 838, 839, 840, 841] (by decide +kernel) (by decide +kernel)
set_option maxRecDepth 20000 in
theorem gL_law_X6_round : GoodIn wsL_law (wsV RL 84 RX6 yX6_round wsX6_round) := goodIn_app (goodIn_of _ (by decide +kernel)) ggL_law_X6_round
set_option maxRecDepth 20000 in
theorem ggL_law_X5_accounts : GoodIn wsL_law wsX5_accounts := goodIn_r _ [554, 102, 103, 2, 104, 555, 556, 557, 558, 15, 415, 284, 285, 14, 286, 112, 466, 52, 53, 559, 560, 561, 562, 563, 315, 316, 445, 446, 447, 448, 42, 449, 450, 451, 452, 41, 329, 330, 331, 332, 43, 564, 565, 566, 567, 568, 569, 570, 812, 813, 814, 815, 816, 817, 818, 819, 842, 843, 844, 845, 846, 847, 848, 849, 850, 851, 852, 853, 854, 855] (by decide +kernel) (by decide +kernel)
set_option maxRecDepth 20000 in
theorem gL_law_X5_accounts : GoodIn wsL_law (wsV RL 85 RX5 yX5_accounts wsX5_accounts) := goodIn_app (goodIn_of _ (by decide +kernel)) ggL_law_X5_accounts
set_option maxRecDepth 20000 in
theorem ggL_law_X6_accounts : GoodIn wsL_law wsX6_accounts := goodIn_r _ [574, 87, 124, 125, 5, 126, 457, 458, 459, 460, 80, 130, 131, 132, 133, 81, 134, 135, 136, 359, 360, 361, 362, 575, 576, 577, 578, 579, 580, 581, 356, 357, 358, 820, 821, 822, 823, 824, 825, 826, 827, 828, 829, 830, 831, 832, 833, 834, 835, 836, 837, 838, 839, 840, 841] (by decide +kernel) (by decide +kernel)
set_option maxRecDepth 20000 in
theorem gL_law_X6_accounts : GoodIn wsL_law (wsV RL 88 RX6 yX6_accounts wsX6_accounts) := goodIn_app (goodIn_of _ (by decide +kernel)) ggL_law_X6_accounts
set_option maxRecDepth 20000 in
theorem ggL_law_X5_jubilee : GoodIn wsL_law wsX5_jubilee := goodIn_r _ [585, 15, 98, 466, 52, 2, 53, 102, 103, 104, 563, 315, 316, 586, 587, 588, 589, 415, 284, 285, 14, 286, 112, 812, 813, 814, 815, 816, 817, 818, 819, 842, 843, 844, 845, 846, 847, 848, 849, 850, 851, 852, 853, 854, 855] (by decide +kernel) (by decide +kernel)
set_option maxRecDepth 20000 in
theorem gL_law_X5_jubilee : GoodIn wsL_law (wsV RL 89 RX5 yX5_jubilee wsX5_jubilee) := goodIn_app (goodIn_of _ (by decide +kernel)) ggL_law_X5_jubilee
set_option maxRecDepth 20000 in
theorem ggL_law_X6_jubilee : GoodIn wsL_law wsX6_jubilee := goodIn_r _ [593, 80, 124, 125, 5, 126, 356, 357, 358, 820, 821, 822, 823, 824, 825, 826, 827, 828, 829, 830, 831, 832, 833, 834, 835, 836, 837, 838, 839, 840, 841] (by decide +kernel) (by decide +kernel)
set_option maxRecDepth 20000 in
theorem gL_law_X6_jubilee : GoodIn wsL_law (wsV RL 92 RX6 yX6_jubilee wsX6_jubilee) := goodIn_app (goodIn_of _ (by decide +kernel)) ggL_law_X6_jubilee
set_option maxRecDepth 20000 in
theorem ggL_law_X5_trims : GoodIn wsL_law wsX5_trims := goodIn_r _ [597, 15, 414, 99, 100, 2, 101, 102, 103, 104, 598, 450, 451, 14, 452, 41, 329, 330, 331, 332, 43, 812, 813, 814, 815, 816, 817, 818, 819, 842, 843, 844, 845, 846, 847, 848, 849, 850, 851, 852, 853, 854, 855] (by decide +kernel) (by decide +kernel)
set_option maxRecDepth 20000 in
theorem gL_law_X5_trims : GoodIn wsL_law (wsV RL 93 RX5 yX5_trims wsX5_trims) := goodIn_app (goodIn_of _ (by decide +kernel)) ggL_law_X5_trims
set_option maxRecDepth 20000 in
theorem ggL_law_X6_trims : GoodIn wsL_law wsX6_trims := goodIn_r _ [602, 80, 121, 122, 5, 123, 124, 125, 126, 820, 821, 822, 823, 824, 825, 826, 827, 828, 829, 830, 831, 832, 833, 834, 835, 836, 837, 838, 839, 840, 841] (by decide +kernel) (by decide +kernel)
set_option maxRecDepth 20000 in
theorem gL_law_X6_trims : GoodIn wsL_law (wsV RL 96 RX6 yX6_trims wsX6_trims) := goodIn_app (goodIn_of _ (by decide +kernel)) ggL_law_X6_trims
set_option maxRecDepth 20000 in
theorem ggL_law_X5_seen : GoodIn wsL_law wsX5_seen := goodIn_r _ [606, 15, 607, 99, 100, 2, 101, 102, 103, 104, 608, 609, 610, 14, 611, 270, 49, 50, 812, 813, 814, 815, 816, 817, 818, 819, 842, 843, 844, 845, 846, 847, 848, 849, 850, 851, 852, 853, 854, 855] (by decide +kernel) (by decide +kernel)
set_option maxRecDepth 20000 in
theorem gL_law_X5_seen : GoodIn wsL_law (wsV RL 97 RX5 yX5_seen wsX5_seen) := goodIn_app (goodIn_of _ (by decide +kernel)) ggL_law_X5_seen
set_option maxRecDepth 20000 in
theorem ggL_law_X6_seen : GoodIn wsL_law wsX6_seen := goodIn_r _ [615, 616, 84, 121, 122, 5, 123, 124, 125, 126, 820, 821, 822, 823, 824, 825, 826, 827, 828, 829, 830, 831, 832, 833, 834, 835, 836, 837, 838, 839, 840, 841] (by decide +kernel) (by decide +kernel)
set_option maxRecDepth 20000 in
theorem gL_law_X6_seen : GoodIn wsL_law (wsV RL 100 RX6 yX6_seen wsX6_seen) := goodIn_app (goodIn_of _ (by decide +kernel)) ggL_law_X6_seen
set_option maxRecDepth 20000 in
theorem ggL_law_X5_forget : GoodIn wsL_law wsX5_forget := goodIn_r _ [620, 15, 607, 812, 813, 814, 815, 816, 817, 818, 819, 842, 843, 844, 845, 846, 847, 848, 849, 850, 851, 852, 853, 854, 855] (by decide +kernel) (by decide +kernel)
set_option maxRecDepth 20000 in
theorem gL_law_X5_forget : GoodIn wsL_law (wsV RL 101 RX5 yX5_forget wsX5_forget) := goodIn_app (goodIn_of _ (by decide +kernel)) ggL_law_X5_forget
set_option maxRecDepth 20000 in
theorem ggL_law_X6_forget : GoodIn wsL_law wsX6_forget := goodIn_r _ [624, 616, 820, 821, 822, 823, 824, 825, 826, 827, 828, 829, 830, 831, 832, 833, 834, 835, 836, 837, 838, 839, 840, 841] (by decide +kernel) (by decide +kernel)
set_option maxRecDepth 20000 in
theorem gL_law_X6_forget : GoodIn wsL_law (wsV RL 104 RX6 yX6_forget wsX6_forget) := goodIn_app (goodIn_of _ (by decide +kernel)) ggL_law_X6_forget
set_option maxRecDepth 20000 in
theorem ggL_law_X5_sneezes : GoodIn wsL_law wsX5_sneezes := goodIn_r _ [628, 35, 15, 629, 630, 631, 34, 632, 73, 74, 633, 634, 635, 636, 637, 638, 639, 640, 641, 322, 323, 324, 642, 500, 501, 643, 644, 645, 646, 446, 447, 14, 448, 42, 449, 450, 451, 452, 41, 329, 330, 331, 332, 43, 647, 326, 327, 328, 648, 649, 650, 651, 652, 653, 654, 655, 656, 657, 658, 659, 660, 661, 662, 663, 664, 665, 666, 667, 668, 669, 103, 2, 104, 812, 813, 814, 815, 816, 817, 818, 819, 873, 874, 875, 842, 843, 844, 845, 846, 847, 848, 849, 850, 851, 852, 853, 854, 855] (by decide +kernel) (by decide +kernel)
set_option maxRecDepth 20000 in
theorem gL_law_X5_sneezes : GoodIn wsL_law (wsV RL 105 RX5 yX5_sneezes wsX5_sneezes) := goodIn_app (goodIn_of _ (by decide +kernel)) ggL_law_X5_sneezes
set_option maxRecDepth 20000 in
theorem ggL_law_X6_sneezes : GoodIn wsL_law wsX6_sneezes := goodIn_r _ [673, 674, 675, 676, 5, 677, 88, 130, 131, 132, 133, 81, 80, 134, 135, 136, 359, 360, 361, 362, 678, 679, 680, 681, 616, 84, 124, 125, 126, 682, 683, 684, 685, 820, 821, 822, 823, 824, 825, 826, 827, 828, 829, 830, 831, 832, 833, 834, 835, 836, 837, 838, 839, 840, 841] (by decide +kernel) (by decide +kernel)
set_option maxRecDepth 20000 in
theorem gL_law_X6_sneezes : GoodIn wsL_law (wsV RL 108 RX6 yX6_sneezes wsX6_sneezes) := goodIn_app (goodIn_of _ (by decide +kernel)) ggL_law_X6_sneezes
