set_option maxRecDepth 20000 in
theorem ggL_law_X8_ahead : GoodIn wsL_law wsX8_ahead := goodIn_r _ [504, 15, 134, 135, 2, 136, 137, 138, 139, 472, 473, 474, 475, 505, 312, 313, 14, 314, 52, 315, 167, 168, 169, 51, 480, 481, 482, 483, 484, 485, 923, 924, 925, 926, 927, 928, 929, 930, 931, 956, 957] (by decide +kernel) (by decide +kernel)
set_option maxRecDepth 20000 in
theorem gL_law_X8_ahead : GoodIn wsL_law (wsV RL 78 RX8 yX8_ahead wsX8_ahead) := goodIn_app (goodIn_of _ (by decide +kernel)) ggL_law_X8_ahead
set_option maxRecDepth 20000 in
theorem ggL_law_X9_ahead : GoodIn wsL_law wsX9_ahead := goodIn_r _ [509, 147, 148, 5, 149, 150, 151, 152, 510, 511, 512, 513, 514, 328, 329, 330, 331, 113, 174, 175, 176, 177, 109, 111, 110, 112, 498, 499, 500, 494, 495, 496, 497, 932, 933, 934, 935, 936, 937, 938, 939, 940, 941, 942, 943, 944, 945, 946, 947, 948, 949, 950, 951, 952, 953, 954, 955] (by decide +kernel) (by decide +kernel)
set_option maxRecDepth 20000 in
theorem gL_law_X9_ahead : GoodIn wsL_law (wsV RL 82 RX9 yX9_ahead wsX9_ahead) := goodIn_app (goodIn_of _ (by decide +kernel)) ggL_law_X9_ahead
set_option maxRecDepth 20000 in
theorem ggL_law_X8_best : GoodIn wsL_law wsX8_best := goodIn_r _ [518, 39, 134, 135, 2, 136, 137, 138, 139, 519, 520, 521, 38, 522, 95, 97, 96, 523, 312, 313, 14, 314, 52, 315, 167, 168, 169, 51, 524, 525, 526, 527, 528, 529, 530, 531, 532, 426, 427, 428, 429, 430, 431, 203, 204, 533, 534, 535, 536, 537, 538, 539, 540, 541, 542, 543, 544, 545, 546, 547, 548, 923, 924, 925, 926, 927, 928, 929, 930, 931, 977, 978, 979, 956, 957] (by decide +kernel) (by decide +kernel)
set_option maxRecDepth 20000 in
theorem gL_law_X8_best : GoodIn wsL_law (wsV RL 83 RX8 yX8_best wsX8_best) := goodIn_app (goodIn_of _ (by decide +kernel)) ggL_law_X8_best
set_option maxRecDepth 20000 in
theorem ggL_law_X9_best : GoodIn wsL_law wsX9_best := goodIn_r _ [552, 147, 148, 5, 149, 150, 151, 152, 553, 554, 555, 556, 116, 460, 461, 462, 463, 240, 241, 242, 328, 329, 330, 331, 113, 174, 175, 176, 177, 109, 111, 110, 112, 932, 933, 934, 935, 936, 937, 938, 939, 940, 941, 942, 943, 944, 945, 946, 947, 948, 949, 950, 951, 952, 953, 954, 955] (by decide +kernel) (by decide +kernel)
set_option maxRecDepth 20000 in
theorem gL_law_X9_best : GoodIn wsL_law (wsV RL 86 RX9 yX9_best wsX9_best) := goodIn_app (goodIn_of _ (by decide +kernel)) ggL_law_X9_best
set_option maxRecDepth 20000 in
theorem ggL_law_X8_rather : GoodIn wsL_law wsX8_rather := goodIn_r _ [560, 23, 281, 282, 283, 2, 284, 19, 285, 137, 138, 139, 561, 562, 563, 22, 564, 64, 65, 310, 287, 288, 18, 289, 56, 311, 312, 313, 14, 314, 52, 315, 167, 168, 169, 51, 923, 924, 925, 926, 927, 928, 929, 930, 931, 958, 959, 960, 961, 962, 963, 956, 957] (by decide +kernel) (by decide +kernel)
set_option maxRecDepth 20000 in
theorem gL_law_X8_rather : GoodIn wsL_law (wsV RL 87 RX8 yX8_rather wsX8_rather) := goodIn_app (goodIn_of _ (by decide +kernel)) ggL_law_X8_rather
set_option maxRecDepth 20000 in
theorem ggL_law_X9_rather : GoodIn wsL_law wsX9_rather := goodIn_r _ [568, 294, 295, 296, 5, 297, 239, 235, 236, 237, 238, 213, 114, 115, 147, 148, 149, 150, 151, 152, 240, 241, 242, 569, 570, 571, 572, 328, 329, 330, 331, 113, 174, 175, 176, 177, 109, 111, 110, 112, 932, 933, 934, 935, 936, 937, 938, 939, 940, 941, 942, 943, 944, 945, 946, 947, 948, 949, 950, 951, 952, 953, 954, 955] (by decide +kernel) (by decide +kernel)
set_option maxRecDepth 20000 in
theorem gL_law_X9_rather : GoodIn wsL_law (wsV RL 90 RX9 yX9_rather wsX9_rather) := goodIn_app (goodIn_of _ (by decide +kernel)) ggL_law_X9_rather
set_option maxRecDepth 20000 in
theorem ggL_law_X8_on : GoodIn wsL_law wsX8_on := goodIn_r _ [576, 23, 281, 282, 283, 2, 284, 19, 285, 137, 138, 139, 134, 135, 136, 577, 578, 579, 22, 580, 65, 310, 287, 288, 18, 289, 56, 923, 924, 925, 926, 927, 928, 929, 930, 931, 958, 959, 960, 961, 962, 963] (by decide +kernel) (by decide +kernel)
set_option maxRecDepth 20000 in
theorem gL_law_X8_on : GoodIn wsL_law (wsV RL 91 RX8 yX8_on wsX8_on) := goodIn_app (goodIn_of _ (by decide +kernel)) ggL_law_X8_on
set_option maxRecDepth 20000 in
theorem ggL_law_X9_on : GoodIn wsL_law wsX9_on := goodIn_r _ [584, 294, 295, 296, 5, 297, 239, 235, 236, 237, 238, 213, 114, 115, 147, 148, 149, 150, 151, 152, 240, 241, 242, 585, 586, 587, 588, 932, 933, 934, 935, 936, 937, 938, 939, 940, 941, 942, 943, 944, 945, 946, 947, 948, 949, 950, 951, 952, 953, 954, 955] (by decide +kernel) (by decide +kernel)
set_option maxRecDepth 20000 in
theorem gL_law_X9_on : GoodIn wsL_law (wsV RL 94 RX9 yX9_on wsX9_on) := goodIn_app (goodIn_of _ (by decide +kernel)) ggL_law_X9_on
