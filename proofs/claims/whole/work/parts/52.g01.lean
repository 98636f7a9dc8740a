set_option maxRecDepth 20000 in
theorem ggL_law_X7_bounds : GoodIn wsL_law wsX7_bounds := goodIn_r _ [278, 20, 24, 279, 280, 281, 16, 112, 140, 141, 142, 19, 143, 144, 145, 146, 147, 148, 149, 150, 151, 52, 152, 153, 154, 155, 156, 157, 158, 159, 160, 161, 51, 162, 163, 164, 165, 166, 167, 168, 169, 170, 171, 172, 173, 174, 175, 176, 177, 178, 179, 180, 181, 182, 183, 184, 185, 186, 187, 188, 189, 190, 191, 192, 193, 194, 195, 196, 197, 198, 199, 200, 201, 202, 203, 204, 205, 206, 207, 208, 209, 210, 211, 212, 213, 214, 215, 216, 217, 218, 116, 2, 117, 219, 220, 221, 222, 223, 224, 225, 226, 227, 228, 229, 230, 231, 232, 233, 234, 282, 283, 284, 23, 285, 56, 286, 287, 288, 289, 290, 291, 292, 293, 294, 58, 61, 59, 60, 57, 295, 296, 297, 298, 299, 300, 301, 302, 861, 862, 863, 864, 865, 866, 867, 868, 869, 905, 906, 907, 908, 909, 910, 911, 899, 900, 901, 902, 903, 904, 897, 898] (by decide +kernel) (by decide +kernel)
set_option maxRecDepth 20000 in
theorem gL_law_X7_bounds : GoodIn wsL_law (wsV RL 29 RX7 yX7_bounds wsX7_bounds) := goodIn_app (goodIn_of _ (by decide +kernel)) ggL_law_X7_bounds
set_option maxRecDepth 20000 in
theorem ggL_law_X8_bounds : GoodIn wsL_law wsX8_bounds := goodIn_r _ [306, 307, 240, 94, 95, 123, 308, 236, 237, 5, 238, 239, 241, 242, 93, 243, 244, 245, 246, 247, 248, 249, 250, 251, 252, 253, 254, 255, 256, 257, 258, 259, 260, 261, 262, 263, 264, 265, 125, 126, 127, 266, 267, 268, 269, 270, 271, 272, 273, 274, 870, 871, 872, 873, 874, 875, 876, 877, 878, 879, 880, 881, 882, 883, 884, 885, 886, 887, 888, 889, 890, 891, 892, 893, 894, 895, 896] (by decide +kernel) (by decide +kernel)
set_option maxRecDepth 20000 in
theorem gL_law_X8_bounds : GoodIn wsL_law (wsV RL 32 RX8 yX8_bounds wsX8_bounds) := goodIn_app (goodIn_of _ (by decide +kernel)) ggL_law_X8_bounds
set_option maxRecDepth 20000 in
theorem ggL_law_X7_strike : GoodIn wsL_law wsX7_strike := goodIn_r _ [312, 24, 279, 313, 314, 315, 2, 316, 115, 116, 117, 317, 318, 319, 23, 320, 286, 56, 287, 288, 289, 290, 57, 58, 59, 60, 61, 321, 322, 323, 861, 862, 863, 864, 865, 866, 867, 868, 869, 905, 906, 907, 908, 909, 910, 911] (by decide +kernel) (by decide +kernel)
set_option maxRecDepth 20000 in
theorem gL_law_X7_strike : GoodIn wsL_law (wsV RL 33 RX7 yX7_strike wsX7_strike) := goodIn_app (goodIn_of _ (by decide +kernel)) ggL_law_X7_strike
set_option maxRecDepth 20000 in
theorem ggL_law_X8_strike : GoodIn wsL_law wsX8_strike := goodIn_r _ [327, 307, 94, 328, 329, 330, 5, 331, 125, 126, 127, 870, 871, 872, 873, 874, 875, 876, 877, 878, 879, 880, 881, 882, 883, 884, 885, 886, 887, 888, 889, 890, 891, 892, 893, 894, 895, 896] (by decide +kernel) (by decide +kernel)
set_option maxRecDepth 20000 in
theorem gL_law_X8_strike : GoodIn wsL_law (wsV RL 37 RX8 yX8_strike wsX8_strike) := goodIn_app (goodIn_of _ (by decide +kernel)) ggL_law_X8_strike
set_option maxRecDepth 20000 in
theorem ggL_law_X7_bound : GoodIn wsL_law wsX7_bound := goodIn_r _ [335, 24, 313, 314, 315, 2, 316, 279, 115, 116, 117, 336, 296, 297, 23, 298, 56, 861, 862, 863, 864, 865, 866, 867, 868, 869, 905, 906, 907, 908, 909, 910, 911] (by decide +kernel) (by decide +kernel)
set_option maxRecDepth 20000 in
theorem gL_law_X7_bound : GoodIn wsL_law (wsV RL 38 RX7 yX7_bound wsX7_bound) := goodIn_app (goodIn_of _ (by decide +kernel)) ggL_law_X7_bound
set_option maxRecDepth 20000 in
theorem ggL_law_X8_bound : GoodIn wsL_law wsX8_bound := goodIn_r _ [340, 341, 94, 328, 329, 330, 5, 331, 307, 125, 126, 127, 870, 871, 872, 873, 874, 875, 876, 877, 878, 879, 880, 881, 882, 883, 884, 885, 886, 887, 888, 889, 890, 891, 892, 893, 894, 895, 896] (by decide +kernel) (by decide +kernel)
set_option maxRecDepth 20000 in
theorem gL_law_X8_bound : GoodIn wsL_law (wsV RL 42 RX8 yX8_bound wsX8_bound) := goodIn_app (goodIn_of _ (by decide +kernel)) ggL_law_X8_bound
set_option maxRecDepth 20000 in
theorem ggL_law_X7_may : GoodIn wsL_law wsX7_may := goodIn_r _ [345, 24, 346, 347, 2, 348, 115, 116, 117, 349, 350, 351, 352, 353, 354, 23, 355, 356, 357, 358, 359, 57, 58, 60, 59, 61, 360, 361, 362, 363, 364, 365, 366, 367, 295, 296, 297, 298, 56, 861, 862, 863, 864, 865, 866, 867, 868, 869, 905, 906, 907, 908, 909, 910, 911] (by decide +kernel) (by decide +kernel)
set_option maxRecDepth 20000 in
theorem gL_law_X7_may : GoodIn wsL_law (wsV RL 43 RX7 yX7_may wsX7_may) := goodIn_app (goodIn_of _ (by decide +kernel)) ggL_law_X7_may
set_option maxRecDepth 20000 in
theorem ggL_law_X8_may : GoodIn wsL_law wsX8_may := goodIn_r _ [371, 372, 373, 5, 374, 375, 125, 126, 127, 376, 377, 378, 379, 380, 381, 382, 383, 384, 307, 385, 386, 387, 388, 389, 94, 390, 391, 392, 393, 394, 395, 396, 397, 398, 399, 400, 401, 870, 871, 872, 873, 874, 875, 876, 877, 878, 879, 880, 881, 882, 883, 884, 885, 886, 887, 888, 889, 890, 891, 892, 893, 894, 895, 896] (by decide +kernel) (by decide +kernel)
set_option maxRecDepth 20000 in
theorem gL_law_X8_may : GoodIn wsL_law (wsV RL 46 RX8 yX8_may wsX8_may) := goodIn_app (goodIn_of _ (by decide +kernel)) ggL_law_X8_may
