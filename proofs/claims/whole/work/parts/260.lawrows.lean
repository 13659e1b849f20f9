set_option maxRecDepth 20000 in
theorem ggL_law_X5_init : GoodIn wsL_law wsX5_init := goodIn_r _ [8, 9, 10, 11, 12, 13, 14, 15, 16, 17, 18, 19, 20, 21, 22, 23, 24, 25, 26, 27, 28, 29, 30, 31, 32, 33, 34, 35, 36, 37, 38, 39, 40, 41, 42, 43, 44, 45, 46, 47, 48, 49, 50, 51, 52, 2, 53, 54, 55, 56, 57, 58, 59, 60, 61, 62, 63, 64, 65, 66, 67, 68, 69, 70, 71, 72, 73, 74, 75, 842, 843, 844, 845, 846, 847, 848, 849, 850, 851, 852, 853, 854, 855, 812, 813, 814, 815, 816, 817, 818, 819, 856, 857, 858, 859, 860, 861, 862, 863, 864, 865, 866, 867, 868, 869, 870, 871, 872, 873, 874, 875] (by decide +kernel) (by decide +kernel)
set_option maxRecDepth 20000 in
theorem gL_law_X5_init : GoodIn wsL_law (wsX5_init) := ggL_law_X5_init
set_option maxRecDepth 20000 in
theorem ggL_law_X6_init : GoodIn wsL_law wsX6_init := goodIn_r _ [78, 79, 10, 11, 40, 80, 81, 82, 83, 84, 85, 86, 87, 88, 89, 90, 18, 91, 92, 93, 820, 821, 822, 823, 824, 825, 826, 827, 828, 829, 830, 831, 832, 833, 834, 835, 836, 837, 838, 839, 840, 841] (by decide +kernel) (by decide +kernel)
set_option maxRecDepth 20000 in
theorem gL_law_X6_init : GoodIn wsL_law (wsX6_init) := ggL_law_X6_init
set_option maxRecDepth 20000 in
theorem ggL_law_X5_candle : GoodIn wsL_law wsX5_candle := goodIn_r _ [97, 15, 98, 99, 100, 2, 101, 102, 103, 104, 105, 106, 107, 108, 109, 110, 14, 111, 41, 44, 45, 46, 42, 112, 52, 53, 113, 114, 115, 116, 47, 812, 813, 814, 815, 816, 817, 818, 819, 842, 843, 844, 845, 846, 847, 848, 849, 850, 851, 852, 853, 854, 855] (by decide +kernel) (by decide +kernel)
set_option maxRecDepth 20000 in
theorem gL_law_X5_candle : GoodIn wsL_law (wsV RL 13 RX5 yX5_candle wsX5_candle) := goodIn_app (goodIn_of _ (by decide +kernel)) ggL_law_X5_candle
set_option maxRecDepth 20000 in
theorem ggL_law_X6_candle : GoodIn wsL_law wsX6_candle := goodIn_r _ [120, 80, 81, 82, 83, 121, 122, 5, 123, 124, 125, 126, 127, 128, 129, 130, 131, 132, 133, 134, 135, 136, 137, 138, 139, 140, 820, 821, 822, 823, 824, 825, 826, 827, 828, 829, 830, 831, 832, 833, 834, 835, 836, 837, 838, 839, 840, 841] (by decide +kernel) (by decide +kernel)
set_option maxRecDepth 20000 in
theorem gL_law_X6_candle : GoodIn wsL_law (wsV RL 17 RX6 yX6_candle wsX6_candle) := goodIn_app (goodIn_of _ (by decide +kernel)) ggL_law_X6_candle
set_option maxRecDepth 20000 in
theorem ggL_law_X5_draught : GoodIn wsL_law wsX5_draught := goodIn_r _ [144, 15, 145, 99, 100, 2, 101, 102, 103, 104, 812, 813, 814, 815, 816, 817, 818, 819, 842, 843, 844, 845, 846, 847, 848, 849, 850, 851, 852, 853, 854, 855] (by decide +kernel) (by decide +kernel)
set_option maxRecDepth 20000 in
theorem gL_law_X5_draught : GoodIn wsL_law (wsV RL 18 RX5 yX5_draught wsX5_draught) := goodIn_app (goodIn_of _ (by decide +kernel)) ggL_law_X5_draught
set_option maxRecDepth 20000 in
theorem ggL_law_X6_draught : GoodIn wsL_law wsX6_draught := goodIn_r _ [149, 80, 121, 122, 5, 123, 124, 125, 126, 820, 821, 822, 823, 824, 825, 826, 827, 828, 829, 830, 831, 832, 833, 834, 835, 836, 837, 838, 839, 840, 841] (by decide +kernel) (by decide +kernel)
set_option maxRecDepth 20000 in
theorem gL_law_X6_draught : GoodIn wsL_law (wsV RL 22 RX6 yX6_draught wsX6_draught) := goodIn_app (goodIn_of _ (by decide +kernel)) ggL_law_X6_draught
set_option maxRecDepth 20000 in
theorem ggL_law_X5_purse : GoodIn wsL_law wsX5_purse := goodIn_r _ [153, 15, 154, 105, 106, 2, 107, 102, 103, 104, 812, 813, 814, 815, 816, 817, 818, 819, 842, 843, 844, 845, 846, 847, 848, 849, 850, 851, 852, 853, 854, 855] (by decide +kernel) (by decide +kernel)
set_option maxRecDepth 20000 in
theorem gL_law_X5_purse : GoodIn wsL_law (wsV RL 23 RX5 yX5_purse wsX5_purse) := goodIn_app (goodIn_of _ (by decide +kernel)) ggL_law_X5_purse
set_option maxRecDepth 20000 in
theorem ggL_law_X6_purse : GoodIn wsL_law wsX6_purse := goodIn_r _ [158, 80, 127, 128, 5, 129, 124, 125, 126, 820, 821, 822, 823, 824, 825, 826, 827, 828, 829, 830, 831, 832, 833, 834, 835, 836, 837, 838, 839, 840, 841] (by decide +kernel) (by decide +kernel)
set_option maxRecDepth 20000 in
theorem gL_law_X6_purse : GoodIn wsL_law (wsV RL 26 RX6 yX6_purse wsX6_purse) := goodIn_app (goodIn_of _ (by decide +kernel)) ggL_law_X6_purse
set_option maxRecDepth 20000 in
theorem ggL_law_X5_matches : GoodIn wsL_law wsX5_matches := goodIn_r _ [162, 15, 163, 102, 103, 2, 104, 812, 813, 814, 815, 816, 817, 818, 819, 842, 843, 844, 845, 846, 847, 848, 849, 850, 851, 852, 853, 854, 855] (by decide +kernel) (by decide +kernel)
set_option maxRecDepth 20000 in
theorem gL_law_X5_matches : GoodIn wsL_law (wsV RL 27 RX5 yX5_matches wsX5_matches) := goodIn_app (goodIn_of _ (by decide +kernel)) ggL_law_X5_matches
set_option maxRecDepth 20000 in
theorem ggL_law_X6_matches : GoodIn wsL_law wsX6_matches := goodIn_r _ [167, 80, 124, 125, 5, 126, 820, 821, 822, 823, 824, 825, 826, 827, 828, 829, 830, 831, 832, 833, 834, 835, 836, 837, 838, 839, 840, 841] (by decide +kernel) (by decide +kernel)
set_option maxRecDepth 20000 in
theorem gL_law_X6_matches : GoodIn wsL_law (wsV RL 31 RX6 yX6_matches wsX6_matches) := goodIn_app (goodIn_of _ (by decide +kernel)) ggL_law_X6_matches
set_option maxRecDepth 20000 in
theorem ggL_law_X5_say : GoodIn wsL_law wsX5_say := goodIn_r _ [171, 23, 172, 102, 103, 2, 104, 173, 174, 175, 22, 176, 177, 57, 812, 813, 814, 815, 816, 817, 818, 819, 856, 857, 858, 859, 860, 861] (by decide +kernel) (by decide +kernel)
set_option maxRecDepth 20000 in
theorem gL_law_X5_say : GoodIn wsL_law (wsV RL 32 RX5 yX5_say wsX5_say) := goodIn_app (goodIn_of _ (by decide +kernel)) ggL_law_X5_say
set_option maxRecDepth 20000 in
theorem ggL_law_X6_say : GoodIn wsL_law wsX6_say := goodIn_r _ [181, 182, 85, 124, 125, 5, 126, 820, 821, 822, 823, 824, 825, 826, 827, 828, 829, 830, 831, 832, 833, 834, 835, 836, 837, 838, 839, 840, 841] (by decide +kernel) (by decide +kernel)
set_option maxRecDepth 20000 in
theorem gL_law_X6_say : GoodIn wsL_law (wsV RL 35 RX6 yX6_say wsX6_say) := goodIn_app (goodIn_of _ (by decide +kernel)) ggL_law_X6_say
set_option maxRecDepth 20000 in
theorem ggL_law_X5_wipe : GoodIn wsL_law wsX5_wipe := goodIn_r _ [186, 23, 172, 812, 813, 814, 815, 816, 817, 818, 819, 856, 857, 858, 859, 860, 861] (by decide +kernel) (by decide +kernel)
set_option maxRecDepth 20000 in
theorem gL_law_X5_wipe : GoodIn wsL_law (wsV RL 36 RX5 yX5_wipe wsX5_wipe) := goodIn_app (goodIn_of _ (by decide +kernel)) ggL_law_X5_wipe
set_option maxRecDepth 20000 in
theorem ggL_law_X6_wipe : GoodIn wsL_law wsX6_wipe := goodIn_r _ [190, 182, 820, 821, 822, 823, 824, 825, 826, 827, 828, 829, 830, 831, 832, 833, 834, 835, 836, 837, 838, 839, 840, 841] (by decide +kernel) (by decide +kernel)
set_option maxRecDepth 20000 in
theorem gL_law_X6_wipe : GoodIn wsL_law (wsV RL 40 RX6 yX6_wipe wsX6_wipe) := goodIn_app (goodIn_of _ (by decide +kernel)) ggL_law_X6_wipe
set_option maxRecDepth 20000 in
theorem ggL_law_X5_fault : GoodIn wsL_law wsX5_fault := goodIn_r _ [194, 23, 195, 196, 197, 22, 198, 177, 199, 200, 201, 202, 203, 204, 205, 206, 207, 208, 209, 210, 57, 211, 212, 213, 214, 215, 216, 217, 218, 103, 2, 104, 219, 220, 221, 222, 223, 224, 225, 226, 812, 813, 814, 815, 816, 817, 818, 819, 856, 857, 858, 859, 860, 861] (by decide +kernel) (by decide +kernel)
set_option maxRecDepth 20000 in
theorem gL_law_X5_fault : GoodIn wsL_law (wsV RL 41 RX5 yX5_fault wsX5_fault) := goodIn_app (goodIn_of _ (by decide +kernel)) ggL_law_X5_fault
set_option maxRecDepth 20000 in
theorem ggL_law_X6_fault : GoodIn wsL_law wsX6_fault := goodIn_r _ [230, 231, 232, 233, 5, 234, 182, 85, 235, 236, 237, 124, 125, 126, 820, 821, 822, 823, 824, 825, 826, 827, 828, 829, 830, 831, 832, 833, 834, 835, 836, 837, 838, 839, 840, 841] (by decide +kernel) (by decide +kernel)
set_option maxRecDepth 20000 in
theorem gL_law_X6_fault : GoodIn wsL_law (wsV RL 44 RX6 yX6_fault wsX6_fault) := goodIn_app (goodIn_of _ (by decide +kernel)) ggL_law_X6_fault
