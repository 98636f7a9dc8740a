set_option maxRecDepth 20000 in
theorem ggL_law_X7_struck : GoodIn wsL_law wsX7_struck := goodIn_r _ [744, 32, 34, 464, 465, 2, 466, 115, 116, 117, 745, 746, 747, 31, 748, 77, 749, 663, 664, 665, 666, 750, 751, 752, 753, 525, 532, 533, 534, 36, 535, 82, 754, 755, 756, 23, 757, 57, 758, 759, 760, 643, 438, 362, 439, 440, 441, 442, 610, 611, 612, 613, 614, 615, 616, 617, 618, 353, 354, 355, 356, 357, 358, 359, 58, 60, 59, 61, 360, 361, 363, 364, 365, 366, 367, 295, 296, 297, 298, 56, 861, 862, 863, 864, 865, 866, 867, 868, 869, 915, 916, 917, 905, 906, 907, 908, 909, 910, 911, 918, 919] (by decide +kernel) (by decide +kernel)
set_option maxRecDepth 20000 in
theorem gL_law_X7_struck : GoodIn wsL_law (wsV RL 113 RX7 yX7_struck wsX7_struck) := goodIn_app (goodIn_of _ (by decide +kernel)) ggL_law_X7_struck
set_option maxRecDepth 20000 in
theorem ggL_law_X8_struck : GoodIn wsL_law wsX8_struck := goodIn_r _ [764, 341, 307, 384, 476, 477, 5, 478, 375, 125, 126, 127, 380, 381, 382, 383, 385, 553, 554, 555, 556, 98, 548, 105, 96, 97, 452, 453, 454, 557, 558, 559, 560, 106, 386, 387, 388, 389, 94, 390, 391, 392, 393, 394, 395, 396, 397, 398, 399, 400, 401, 737, 738, 739, 740, 649, 650, 651, 652, 627, 628, 629, 630, 631, 632, 633, 634, 590, 591, 592, 593, 870, 871, 872, 873, 874, 875, 876, 877, 878, 879, 880, 881, 882, 883, 884, 885, 886, 887, 888, 889, 890, 891, 892, 893, 894, 895, 896] (by decide +kernel) (by decide +kernel)
set_option maxRecDepth 20000 in
theorem gL_law_X8_struck : GoodIn wsL_law (wsV RL 116 RX8 yX8_struck wsX8_struck) := goodIn_app (goodIn_of _ (by decide +kernel)) ggL_law_X8_struck
set_option maxRecDepth 20000 in
theorem ggL_law_X7_takes : GoodIn wsL_law wsX7_takes := goodIn_r _ [768, 24, 313, 314, 315, 2, 316, 279, 115, 116, 117, 346, 347, 348, 769, 770, 771, 23, 772, 419, 353, 354, 355, 356, 357, 358, 359, 57, 58, 60, 59, 61, 360, 361, 362, 363, 364, 365, 366, 367, 295, 296, 297, 298, 56, 861, 862, 863, 864, 865, 866, 867, 868, 869, 905, 906, 907, 908, 909, 910, 911] (by decide +kernel) (by decide +kernel)
set_option maxRecDepth 20000 in
theorem gL_law_X7_takes : GoodIn wsL_law (wsV RL 117 RX7 yX7_takes wsX7_takes) := goodIn_app (goodIn_of _ (by decide +kernel)) ggL_law_X7_takes
set_option maxRecDepth 20000 in
theorem ggL_law_X8_takes : GoodIn wsL_law wsX8_takes := goodIn_r _ [776, 384, 328, 329, 330, 5, 331, 307, 125, 126, 127, 372, 373, 374, 375, 380, 381, 382, 383, 385, 386, 387, 388, 389, 94, 390, 391, 392, 393, 394, 395, 396, 397, 398, 399, 400, 401, 870, 871, 872, 873, 874, 875, 876, 877, 878, 879, 880, 881, 882, 883, 884, 885, 886, 887, 888, 889, 890, 891, 892, 893, 894, 895, 896] (by decide +kernel) (by decide +kernel)
set_option maxRecDepth 20000 in
theorem gL_law_X8_takes : GoodIn wsL_law (wsV RL 120 RX8 yX8_takes wsX8_takes) := goodIn_app (goodIn_of _ (by decide +kernel)) ggL_law_X8_takes
set_option maxRecDepth 20000 in
theorem ggL_law_X7_idle : GoodIn wsL_law wsX7_idle := goodIn_r _ [780, 24, 279, 781, 782, 783, 23, 784, 57, 785, 786, 787, 788, 419, 353, 354, 355, 356, 357, 358, 359, 58, 60, 59, 61, 360, 361, 362, 363, 364, 365, 366, 367, 295, 296, 297, 298, 56, 861, 862, 863, 864, 865, 866, 867, 868, 869, 905, 906, 907, 908, 909, 910, 911] (by decide +kernel) (by decide +kernel)
set_option maxRecDepth 20000 in
theorem gL_law_X7_idle : GoodIn wsL_law (wsV RL 121 RX7 yX7_idle wsX7_idle) := goodIn_app (goodIn_of _ (by decide +kernel)) ggL_law_X7_idle
set_option maxRecDepth 20000 in
theorem ggL_law_X8_idle : GoodIn wsL_law wsX8_idle := goodIn_r _ [792, 307, 380, 381, 382, 5, 383, 384, 385, 793, 794, 795, 796, 386, 387, 388, 389, 94, 390, 391, 392, 393, 394, 395, 396, 397, 398, 399, 400, 401, 870, 871, 872, 873, 874, 875, 876, 877, 878, 879, 880, 881, 882, 883, 884, 885, 886, 887, 888, 889, 890, 891, 892, 893, 894, 895, 896] (by decide +kernel) (by decide +kernel)
set_option maxRecDepth 20000 in
theorem gL_law_X8_idle : GoodIn wsL_law (wsV RL 124 RX8 yX8_idle wsX8_idle) := goodIn_app (goodIn_of _ (by decide +kernel)) ggL_law_X8_idle
set_option maxRecDepth 20000 in
theorem ggL_law_X7_seize : GoodIn wsL_law wsX7_seize := goodIn_r _ [800, 24, 279, 40, 801, 346, 347, 2, 348, 115, 116, 117, 349, 350, 351, 802, 803, 804, 39, 805, 86, 806, 87, 88, 861, 862, 863, 864, 865, 866, 867, 868, 869, 905, 906, 907, 908, 909, 910, 911, 920, 921, 922, 923] (by decide +kernel) (by decide +kernel)
set_option maxRecDepth 20000 in
theorem gL_law_X7_seize : GoodIn wsL_law (wsV RL 125 RX7 yX7_seize wsX7_seize) := goodIn_app (goodIn_of _ (by decide +kernel)) ggL_law_X7_seize
set_option maxRecDepth 20000 in
theorem ggL_law_X8_seize : GoodIn wsL_law wsX8_seize := goodIn_r _ [810, 307, 811, 103, 102, 101, 372, 373, 5, 374, 375, 125, 126, 127, 376, 377, 378, 379, 870, 871, 872, 873, 874, 875, 876, 877, 878, 879, 880, 881, 882, 883, 884, 885, 886, 887, 888, 889, 890, 891, 892, 893, 894, 895, 896] (by decide +kernel) (by decide +kernel)
set_option maxRecDepth 20000 in
theorem gL_law_X8_seize : GoodIn wsL_law (wsV RL 128 RX8 yX8_seize wsX8_seize) := goodIn_app (goodIn_of _ (by decide +kernel)) ggL_law_X8_seize
