set_option maxRecDepth 20000 in
theorem ggL_law_X7_judge : GoodIn wsL_law wsX7_judge := goodIn_r _ [520, 32, 34, 464, 465, 2, 466, 115, 116, 117, 521, 522, 523, 31, 524, 525, 77, 526, 527, 528, 529, 530, 531, 532, 533, 534, 36, 535, 82, 536, 537, 538, 23, 539, 419, 353, 354, 355, 356, 357, 358, 359, 57, 58, 60, 59, 61, 360, 361, 362, 363, 364, 365, 366, 367, 295, 296, 297, 298, 56, 861, 862, 863, 864, 865, 866, 867, 868, 869, 918, 919, 915, 916, 917, 905, 906, 907, 908, 909, 910, 911] (by decide +kernel) (by decide +kernel)
set_option maxRecDepth 20000 in
theorem gL_law_X7_judge : GoodIn wsL_law (wsV RL 80 RX7 yX7_judge wsX7_judge) := goodIn_app (goodIn_of _ (by decide +kernel)) ggL_law_X7_judge
set_option maxRecDepth 20000 in
theorem ggL_law_X8_judge : GoodIn wsL_law wsX8_judge := goodIn_r _ [543, 476, 477, 5, 478, 375, 125, 126, 127, 544, 545, 546, 547, 548, 106, 549, 550, 551, 552, 380, 381, 382, 383, 384, 307, 385, 553, 554, 555, 556, 98, 105, 96, 97, 557, 558, 559, 560, 386, 387, 388, 389, 94, 390, 391, 392, 393, 394, 395, 396, 397, 398, 399, 400, 401, 372, 373, 374, 870, 871, 872, 873, 874, 875, 876, 877, 878, 879, 880, 881, 882, 883, 884, 885, 886, 887, 888, 889, 890, 891, 892, 893, 894, 895, 896] (by decide +kernel) (by decide +kernel)
set_option maxRecDepth 20000 in
theorem gL_law_X8_judge : GoodIn wsL_law (wsV RL 83 RX8 yX8_judge wsX8_judge) := goodIn_app (goodIn_of _ (by decide +kernel)) ggL_law_X8_judge
set_option maxRecDepth 20000 in
theorem ggL_law_X7_told : GoodIn wsL_law wsX7_told := goodIn_r _ [564, 32, 34, 464, 465, 2, 466, 115, 116, 117, 521, 522, 523, 31, 524, 525, 77, 526, 527, 528, 529, 530, 531, 532, 533, 534, 36, 535, 82, 536, 537, 538, 23, 539, 419, 353, 354, 355, 356, 357, 358, 359, 57, 58, 60, 59, 61, 360, 361, 362, 363, 364, 365, 366, 367, 295, 296, 297, 298, 56, 565, 566, 567, 568, 569, 570, 571, 572, 78, 573, 574, 575, 27, 576, 66, 67, 577, 578, 579, 580, 581, 861, 862, 863, 864, 865, 866, 867, 868, 869, 918, 919, 915, 916, 917, 905, 906, 907, 908, 909, 910, 911, 912, 913, 914] (by decide +kernel) (by decide +kernel)
set_option maxRecDepth 20000 in
theorem gL_law_X7_told : GoodIn wsL_law (wsV RL 84 RX7 yX7_told wsX7_told) := goodIn_app (goodIn_of _ (by decide +kernel)) ggL_law_X7_told
set_option maxRecDepth 20000 in
theorem ggL_law_X8_told : GoodIn wsL_law wsX8_told := goodIn_r _ [585, 451, 548, 476, 477, 5, 478, 375, 125, 126, 127, 544, 545, 546, 547, 106, 549, 550, 551, 552, 380, 381, 382, 383, 384, 307, 385, 553, 554, 555, 556, 98, 105, 96, 97, 557, 558, 559, 560, 386, 387, 388, 389, 94, 390, 391, 392, 393, 394, 395, 396, 397, 398, 399, 400, 401, 372, 373, 374, 586, 587, 588, 589, 100, 99, 516, 590, 591, 592, 593, 870, 871, 872, 873, 874, 875, 876, 877, 878, 879, 880, 881, 882, 883, 884, 885, 886, 887, 888, 889, 890, 891, 892, 893, 894, 895, 896] (by decide +kernel) (by decide +kernel)
set_option maxRecDepth 20000 in
theorem gL_law_X8_told : GoodIn wsL_law (wsV RL 88 RX8 yX8_told wsX8_told) := goodIn_app (goodIn_of _ (by decide +kernel)) ggL_law_X8_told
set_option maxRecDepth 20000 in
theorem ggL_law_X7_can : GoodIn wsL_law wsX7_can := goodIn_r _ [597, 32, 34, 464, 465, 2, 466, 115, 116, 117, 598, 599, 600, 601, 602, 603, 31, 604, 605, 606, 607, 608, 609, 610, 611, 612, 613, 525, 532, 533, 534, 36, 535, 82, 614, 615, 616, 617, 77, 618, 353, 354, 23, 355, 356, 357, 358, 359, 57, 58, 60, 59, 61, 360, 361, 362, 363, 364, 365, 366, 367, 295, 296, 297, 298, 56, 861, 862, 863, 864, 865, 866, 867, 868, 869, 918, 919, 915, 916, 917, 905, 906, 907, 908, 909, 910, 911] (by decide +kernel) (by decide +kernel)
set_option maxRecDepth 20000 in
theorem gL_law_X7_can : GoodIn wsL_law (wsV RL 89 RX7 yX7_can wsX7_can) := goodIn_app (goodIn_of _ (by decide +kernel)) ggL_law_X7_can
set_option maxRecDepth 20000 in
theorem ggL_law_X8_can : GoodIn wsL_law wsX8_can := goodIn_r _ [622, 476, 477, 5, 478, 375, 125, 126, 127, 623, 624, 625, 626, 549, 550, 551, 552, 380, 381, 382, 383, 384, 307, 385, 553, 554, 555, 556, 98, 548, 105, 96, 97, 557, 558, 559, 560, 106, 386, 387, 388, 389, 94, 390, 391, 392, 393, 394, 395, 396, 397, 398, 399, 400, 401, 627, 628, 629, 630, 631, 632, 633, 634, 590, 591, 592, 593, 870, 871, 872, 873, 874, 875, 876, 877, 878, 879, 880, 881, 882, 883, 884, 885, 886, 887, 888, 889, 890, 891, 892, 893, 894, 895, 896] (by decide +kernel) (by decide +kernel)
set_option maxRecDepth 20000 in
theorem gL_law_X8_can : GoodIn wsL_law (wsV RL 92 RX8 yX8_can wsX8_can) := goodIn_app (goodIn_of _ (by decide +kernel)) ggL_law_X8_can
set_option maxRecDepth 20000 in
theorem ggL_law_X7_fewest : GoodIn wsL_law wsX7_fewest := goodIn_r _ [638, 32, 34, 464, 465, 2, 466, 115, 116, 117, 639, 606, 607, 31, 608, 609, 610, 611, 612, 613, 525, 532, 533, 534, 36, 535, 82, 614, 615, 616, 617, 77, 618, 353, 354, 23, 355, 356, 357, 358, 359, 57, 58, 60, 59, 61, 360, 361, 362, 363, 364, 365, 366, 367, 295, 296, 297, 298, 56, 640, 641, 642, 643, 438, 439, 440, 441, 442, 644, 861, 862, 863, 864, 865, 866, 867, 868, 869, 918, 919, 915, 916, 917, 905, 906, 907, 908, 909, 910, 911] (by decide +kernel) (by decide +kernel)
set_option maxRecDepth 20000 in
theorem gL_law_X7_fewest : GoodIn wsL_law (wsV RL 93 RX7 yX7_fewest wsX7_fewest) := goodIn_app (goodIn_of _ (by decide +kernel)) ggL_law_X7_fewest
set_option maxRecDepth 20000 in
theorem ggL_law_X8_fewest : GoodIn wsL_law wsX8_fewest := goodIn_r _ [648, 476, 477, 5, 478, 375, 125, 126, 127, 549, 550, 551, 552, 380, 381, 382, 383, 384, 307, 385, 553, 554, 555, 556, 98, 548, 105, 96, 97, 557, 558, 559, 560, 106, 386, 387, 388, 389, 94, 390, 391, 392, 393, 394, 395, 396, 397, 398, 399, 400, 401, 649, 650, 651, 652, 452, 453, 454, 627, 628, 629, 630, 631, 632, 633, 634, 590, 591, 592, 593, 870, 871, 872, 873, 874, 875, 876, 877, 878, 879, 880, 881, 882, 883, 884, 885, 886, 887, 888, 889, 890, 891, 892, 893, 894, 895, 896] (by decide +kernel) (by decide +kernel)
set_option maxRecDepth 20000 in
theorem gL_law_X8_fewest : GoodIn wsL_law (wsV RL 96 RX8 yX8_fewest wsX8_fewest) := goodIn_app (goodIn_of _ (by decide +kernel)) ggL_law_X8_fewest
