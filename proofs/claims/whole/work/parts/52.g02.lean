set_option maxRecDepth 20000 in
theorem ggL_law_X7_why : GoodIn wsL_law wsX7_why := goodIn_r _ [405, 24, 346, 347, 2, 348, 115, 116, 117, 349, 350, 351, 406, 357, 358, 23, 359, 57, 58, 60, 59, 61, 360, 361, 362, 363, 364, 365, 366, 367, 861, 862, 863, 864, 865, 866, 867, 868, 869, 905, 906, 907, 908, 909, 910, 911] (by decide +kernel) (by decide +kernel)
set_option maxRecDepth 20000 in
theorem gL_law_X7_why : GoodIn wsL_law (wsV RL 47 RX7 yX7_why wsX7_why) := goodIn_app (goodIn_of _ (by decide +kernel)) ggL_law_X7_why
set_option maxRecDepth 20000 in
theorem ggL_law_X8_why : GoodIn wsL_law wsX8_why := goodIn_r _ [410, 372, 373, 5, 374, 375, 125, 126, 127, 376, 377, 378, 379, 380, 381, 382, 383, 384, 307, 385, 390, 391, 392, 393, 94, 394, 395, 396, 397, 398, 399, 400, 401, 870, 871, 872, 873, 874, 875, 876, 877, 878, 879, 880, 881, 882, 883, 884, 885, 886, 887, 888, 889, 890, 891, 892, 893, 894, 895, 896] (by decide +kernel) (by decide +kernel)
set_option maxRecDepth 20000 in
theorem gL_law_X8_why : GoodIn wsL_law (wsV RL 50 RX8 yX8_why wsX8_why) := goodIn_app (goodIn_of _ (by decide +kernel)) ggL_law_X8_why
set_option maxRecDepth 20000 in
theorem ggL_law_X7_who : GoodIn wsL_law wsX7_who := goodIn_r _ [414, 24, 349, 350, 2, 351, 115, 116, 117, 415, 416, 417, 23, 418, 419, 353, 354, 355, 356, 357, 358, 359, 57, 58, 60, 59, 61, 360, 361, 362, 363, 364, 365, 366, 367, 295, 296, 297, 298, 56, 861, 862, 863, 864, 865, 866, 867, 868, 869, 905, 906, 907, 908, 909, 910, 911] (by decide +kernel) (by decide +kernel)
set_option maxRecDepth 20000 in
theorem gL_law_X7_who : GoodIn wsL_law (wsV RL 51 RX7 yX7_who wsX7_who) := goodIn_app (goodIn_of _ (by decide +kernel)) ggL_law_X7_who
set_option maxRecDepth 20000 in
theorem ggL_law_X8_who : GoodIn wsL_law wsX8_who := goodIn_r _ [423, 376, 377, 5, 378, 379, 125, 126, 127, 380, 381, 382, 383, 384, 307, 385, 424, 425, 426, 427, 386, 387, 388, 389, 94, 390, 391, 392, 393, 394, 395, 396, 397, 398, 399, 400, 401, 870, 871, 872, 873, 874, 875, 876, 877, 878, 879, 880, 881, 882, 883, 884, 885, 886, 887, 888, 889, 890, 891, 892, 893, 894, 895, 896] (by decide +kernel) (by decide +kernel)
set_option maxRecDepth 20000 in
theorem gL_law_X8_who : GoodIn wsL_law (wsV RL 54 RX8 yX8_who wsX8_who) := goodIn_app (goodIn_of _ (by decide +kernel)) ggL_law_X8_who
set_option maxRecDepth 20000 in
theorem ggL_law_X7_works : GoodIn wsL_law wsX7_works := goodIn_r _ [431, 24, 115, 116, 2, 117, 432, 433, 434, 23, 435, 436, 416, 417, 418, 419, 353, 354, 355, 356, 357, 358, 359, 57, 58, 60, 59, 61, 360, 361, 362, 363, 364, 365, 366, 367, 295, 296, 297, 298, 56, 437, 438, 439, 440, 441, 442, 443, 444, 445, 446, 861, 862, 863, 864, 865, 866, 867, 868, 869, 905, 906, 907, 908, 909, 910, 911] (by decide +kernel) (by decide +kernel)
set_option maxRecDepth 20000 in
theorem gL_law_X7_works : GoodIn wsL_law (wsV RL 55 RX7 yX7_works wsX7_works) := goodIn_app (goodIn_of _ (by decide +kernel)) ggL_law_X7_works
set_option maxRecDepth 20000 in
theorem ggL_law_X8_works : GoodIn wsL_law wsX8_works := goodIn_r _ [450, 451, 125, 126, 5, 127, 380, 381, 382, 383, 384, 307, 385, 424, 425, 426, 427, 386, 387, 388, 389, 94, 390, 391, 392, 393, 394, 395, 396, 397, 398, 399, 400, 401, 452, 453, 454, 455, 456, 457, 458, 870, 871, 872, 873, 874, 875, 876, 877, 878, 879, 880, 881, 882, 883, 884, 885, 886, 887, 888, 889, 890, 891, 892, 893, 894, 895, 896] (by decide +kernel) (by decide +kernel)
set_option maxRecDepth 20000 in
theorem gL_law_X8_works : GoodIn wsL_law (wsV RL 58 RX8 yX8_works wsX8_works) := goodIn_app (goodIn_of _ (by decide +kernel)) ggL_law_X8_works
set_option maxRecDepth 20000 in
theorem ggL_law_X7_step : GoodIn wsL_law wsX7_step := goodIn_r _ [462, 34, 463, 464, 465, 2, 466, 115, 116, 117, 349, 350, 351, 467, 468, 469, 36, 470, 82, 471, 861, 862, 863, 864, 865, 866, 867, 868, 869, 918, 919] (by decide +kernel) (by decide +kernel)
set_option maxRecDepth 20000 in
theorem gL_law_X7_step : GoodIn wsL_law (wsV RL 59 RX7 yX7_step wsX7_step) := goodIn_app (goodIn_of _ (by decide +kernel)) ggL_law_X7_step
set_option maxRecDepth 20000 in
theorem ggL_law_X8_step : GoodIn wsL_law wsX8_step := goodIn_r _ [475, 98, 96, 97, 476, 477, 5, 478, 375, 125, 126, 127, 376, 377, 378, 379, 870, 871, 872, 873, 874, 875, 876, 877, 878, 879, 880, 881, 882, 883, 884, 885, 886, 887, 888, 889, 890, 891, 892, 893, 894, 895, 896] (by decide +kernel) (by decide +kernel)
set_option maxRecDepth 20000 in
theorem gL_law_X8_step : GoodIn wsL_law (wsV RL 63 RX8 yX8_step wsX8_step) := goodIn_app (goodIn_of _ (by decide +kernel)) ggL_law_X8_step
