set_option maxRecDepth 20000 in
theorem ggL_law_X7_right : GoodIn wsL_law wsX7_right := goodIn_r _ [815, 40, 801, 24, 115, 116, 2, 117, 816, 817, 818, 39, 819, 806, 820, 821, 822, 823, 86, 87, 88, 824, 353, 354, 23, 355, 356, 357, 358, 359, 57, 58, 60, 59, 61, 360, 361, 362, 363, 364, 365, 366, 367, 295, 296, 297, 298, 56, 825, 861, 862, 863, 864, 865, 866, 867, 868, 869, 920, 921, 922, 923, 905, 906, 907, 908, 909, 910, 911] (by decide +kernel) (by decide +kernel)
set_option maxRecDepth 20000 in
theorem gL_law_X7_right : GoodIn wsL_law (wsV RL 129 RX7 yX7_right wsX7_right) := goodIn_app (goodIn_of _ (by decide +kernel)) ggL_law_X7_right
set_option maxRecDepth 20000 in
theorem ggL_law_X8_right : GoodIn wsL_law wsX8_right := goodIn_r _ [829, 830, 811, 125, 126, 5, 127, 831, 832, 833, 834, 384, 101, 385, 103, 102, 386, 387, 388, 389, 94, 390, 391, 392, 393, 307, 394, 395, 396, 397, 398, 399, 400, 401, 870, 871, 872, 873, 874, 875, 876, 877, 878, 879, 880, 881, 882, 883, 884, 885, 886, 887, 888, 889, 890, 891, 892, 893, 894, 895, 896] (by decide +kernel) (by decide +kernel)
set_option maxRecDepth 20000 in
theorem gL_law_X8_right : GoodIn wsL_law (wsV RL 132 RX8 yX8_right wsX8_right) := goodIn_app (goodIn_of _ (by decide +kernel)) ggL_law_X8_right
set_option maxRecDepth 20000 in
theorem ggL_law_X7_year : GoodIn wsL_law wsX7_year := goodIn_r _ [838, 839, 42, 349, 350, 2, 351, 115, 116, 117, 861, 862, 863, 864, 865, 866, 867, 868, 869] (by decide +kernel) (by decide +kernel)
set_option maxRecDepth 20000 in
theorem gL_law_X7_year : GoodIn wsL_law (wsV RL 133 RX7 yX7_year wsX7_year) := goodIn_app (goodIn_of _ (by decide +kernel)) ggL_law_X7_year
set_option maxRecDepth 20000 in
theorem ggL_law_X8_year : GoodIn wsL_law wsX8_year := goodIn_r _ [843, 844, 104, 376, 377, 5, 378, 379, 125, 126, 127, 870, 871, 872, 873, 874, 875, 876, 877, 878, 879, 880, 881, 882, 883, 884, 885, 886, 887, 888, 889, 890, 891, 892, 893, 894, 895, 896] (by decide +kernel) (by decide +kernel)
set_option maxRecDepth 20000 in
theorem gL_law_X8_year : GoodIn wsL_law (wsV RL 136 RX8 yX8_year wsX8_year) := goodIn_app (goodIn_of _ (by decide +kernel)) ggL_law_X8_year
set_option maxRecDepth 20000 in
theorem ggL_law_X7_yearly : GoodIn wsL_law wsX7_yearly := goodIn_r _ [848, 839, 24, 42, 346, 347, 2, 348, 115, 116, 117, 352, 353, 354, 23, 355, 356, 357, 358, 359, 57, 58, 60, 59, 61, 360, 361, 362, 363, 364, 365, 366, 367, 295, 296, 297, 298, 56, 861, 862, 863, 864, 865, 866, 867, 868, 869, 905, 906, 907, 908, 909, 910, 911] (by decide +kernel) (by decide +kernel)
set_option maxRecDepth 20000 in
theorem gL_law_X7_yearly : GoodIn wsL_law (wsV RL 137 RX7 yX7_yearly wsX7_yearly) := goodIn_app (goodIn_of _ (by decide +kernel)) ggL_law_X7_yearly
set_option maxRecDepth 20000 in
theorem ggL_law_X8_yearly : GoodIn wsL_law wsX8_yearly := goodIn_r _ [852, 844, 104, 372, 373, 5, 374, 375, 125, 126, 127, 380, 381, 382, 383, 384, 307, 385, 386, 387, 388, 389, 94, 390, 391, 392, 393, 394, 395, 396, 397, 398, 399, 400, 401, 870, 871, 872, 873, 874, 875, 876, 877, 878, 879, 880, 881, 882, 883, 884, 885, 886, 887, 888, 889, 890, 891, 892, 893, 894, 895, 896] (by decide +kernel) (by decide +kernel)
set_option maxRecDepth 20000 in
theorem gL_law_X8_yearly : GoodIn wsL_law (wsV RL 140 RX8 yX8_yearly wsX8_yearly) := goodIn_app (goodIn_of _ (by decide +kernel)) ggL_law_X8_yearly
set_option maxRecDepth 20000 in
theorem ggL_law_X7_count : GoodIn wsL_law wsX7_count := goodIn_r _ [856, 24, 279, 16, 112, 40, 801, 839, 34, 463, 115, 116, 2, 117, 861, 862, 863, 864, 865, 866, 867, 868, 869, 905, 906, 907, 908, 909, 910, 911, 897, 898, 920, 921, 922, 923, 918, 919] (by decide +kernel) (by decide +kernel)
set_option maxRecDepth 20000 in
theorem gL_law_X7_count : GoodIn wsL_law (wsV RL 141 RX7 yX7_count wsX7_count) := goodIn_app (goodIn_of _ (by decide +kernel)) ggL_law_X7_count
set_option maxRecDepth 20000 in
theorem ggL_law_X8_count : GoodIn wsL_law wsX8_count := goodIn_r _ [860, 307, 123, 811, 844, 98, 870, 871, 872, 873, 874, 875, 876, 877, 878, 879, 880, 881, 882, 883, 884, 885, 886, 887, 888, 889, 890, 891, 892, 893, 894, 895, 896] (by decide +kernel) (by decide +kernel)
set_option maxRecDepth 20000 in
theorem gL_law_X8_count : GoodIn wsL_law (wsV RL 144 RX8 yX8_count wsX8_count) := goodIn_app (goodIn_of _ (by decide +kernel)) ggL_law_X8_count
