set_option maxRecDepth 20000 in
theorem ggL_law_X8_home : GoodIn wsL_law wsX8_home := goodIn_r _ [378, 23, 134, 135, 2, 136, 137, 138, 139, 379, 380, 381, 22, 382, 65, 383, 310, 287, 288, 18, 289, 56, 923, 924, 925, 926, 927, 928, 929, 930, 931, 962, 963, 958, 959, 960, 961] (by decide +kernel) (by decide +kernel)
set_option maxRecDepth 20000 in
theorem gL_law_X8_home : GoodIn wsL_law (wsV RL 61 RX8 yX8_home wsX8_home) := goodIn_app (goodIn_of _ (by decide +kernel)) ggL_law_X8_home
set_option maxRecDepth 20000 in
theorem ggL_law_X9_home : GoodIn wsL_law wsX9_home := goodIn_r _ [387, 147, 148, 5, 149, 150, 151, 152, 388, 389, 390, 391, 239, 115, 235, 236, 237, 238, 213, 114, 240, 241, 242, 932, 933, 934, 935, 936, 937, 938, 939, 940, 941, 942, 943, 944, 945, 946, 947, 948, 949, 950, 951, 952, 953, 954, 955] (by decide +kernel) (by decide +kernel)
set_option maxRecDepth 20000 in
theorem gL_law_X9_home : GoodIn wsL_law (wsV RL 64 RX9 yX9_home wsX9_home) := goodIn_app (goodIn_of _ (by decide +kernel)) ggL_law_X9_home
set_option maxRecDepth 20000 in
theorem ggL_law_X8_other : GoodIn wsL_law wsX8_other := goodIn_r _ [395, 23, 134, 135, 2, 136, 137, 138, 139, 379, 380, 381, 22, 382, 65, 383, 310, 287, 288, 18, 289, 56, 923, 924, 925, 926, 927, 928, 929, 930, 931, 962, 963, 958, 959, 960, 961] (by decide +kernel) (by decide +kernel)
set_option maxRecDepth 20000 in
theorem gL_law_X8_other : GoodIn wsL_law (wsV RL 65 RX8 yX8_other wsX8_other) := goodIn_app (goodIn_of _ (by decide +kernel)) ggL_law_X8_other
set_option maxRecDepth 20000 in
theorem ggL_law_X9_other : GoodIn wsL_law wsX9_other := goodIn_r _ [399, 147, 148, 5, 149, 150, 151, 152, 400, 401, 402, 403, 239, 115, 235, 236, 237, 238, 213, 114, 240, 241, 242, 932, 933, 934, 935, 936, 937, 938, 939, 940, 941, 942, 943, 944, 945, 946, 947, 948, 949, 950, 951, 952, 953, 954, 955] (by decide +kernel) (by decide +kernel)
set_option maxRecDepth 20000 in
theorem gL_law_X9_other : GoodIn wsL_law (wsV RL 68 RX9 yX9_other wsX9_other) := goodIn_app (goodIn_of _ (by decide +kernel)) ggL_law_X9_other
set_option maxRecDepth 20000 in
theorem ggL_law_X8_sound : GoodIn wsL_law wsX8_sound := goodIn_r _ [407, 35, 134, 135, 2, 136, 137, 138, 139, 408, 409, 410, 411, 412, 15, 413, 414, 415, 14, 416, 315, 167, 168, 169, 51, 52, 417, 418, 419, 34, 420, 88, 89, 421, 422, 423, 424, 425, 426, 427, 428, 429, 430, 431, 432, 433, 434, 435, 87, 436, 437, 438, 439, 440, 441, 442, 443, 444, 445, 446, 447, 448, 449, 450, 451, 923, 924, 925, 926, 927, 928, 929, 930, 931, 974, 975, 976, 956, 957] (by decide +kernel) (by decide +kernel)
set_option maxRecDepth 20000 in
theorem gL_law_X8_sound : GoodIn wsL_law (wsV RL 69 RX8 yX8_sound wsX8_sound) := goodIn_app (goodIn_of _ (by decide +kernel)) ggL_law_X8_sound
set_option maxRecDepth 20000 in
theorem ggL_law_X9_sound : GoodIn wsL_law wsX9_sound := goodIn_r _ [455, 147, 148, 5, 149, 150, 151, 152, 456, 457, 458, 459, 116, 460, 461, 462, 463, 240, 241, 242, 464, 465, 466, 467, 174, 175, 176, 177, 109, 111, 110, 112, 932, 933, 934, 935, 936, 937, 938, 939, 940, 941, 942, 943, 944, 945, 946, 947, 948, 949, 950, 951, 952, 953, 954, 955] (by decide +kernel) (by decide +kernel)
set_option maxRecDepth 20000 in
theorem gL_law_X9_sound : GoodIn wsL_law (wsV RL 72 RX9 yX9_sound wsX9_sound) := goodIn_app (goodIn_of _ (by decide +kernel)) ggL_law_X9_sound
set_option maxRecDepth 20000 in
theorem ggL_law_X8_chance : GoodIn wsL_law wsX8_chance := goodIn_r _ [471, 35, 134, 135, 2, 136, 137, 138, 139, 472, 473, 474, 475, 408, 409, 410, 411, 412, 15, 413, 414, 415, 14, 416, 315, 167, 168, 169, 51, 52, 417, 418, 419, 34, 420, 88, 89, 421, 422, 423, 424, 425, 426, 427, 428, 429, 430, 431, 432, 433, 434, 435, 87, 436, 437, 438, 439, 440, 441, 442, 443, 476, 477, 478, 479, 480, 481, 482, 483, 484, 485, 923, 924, 925, 926, 927, 928, 929, 930, 931, 974, 975, 976, 956, 957] (by decide +kernel) (by decide +kernel)
set_option maxRecDepth 20000 in
theorem gL_law_X8_chance : GoodIn wsL_law (wsV RL 73 RX8 yX8_chance wsX8_chance) := goodIn_app (goodIn_of _ (by decide +kernel)) ggL_law_X8_chance
set_option maxRecDepth 20000 in
theorem ggL_law_X9_chance : GoodIn wsL_law wsX9_chance := goodIn_r _ [489, 147, 148, 5, 149, 150, 151, 152, 490, 491, 492, 493, 116, 460, 461, 462, 463, 240, 241, 242, 464, 465, 466, 467, 174, 175, 176, 177, 109, 111, 110, 112, 494, 495, 496, 497, 498, 499, 500, 932, 933, 934, 935, 936, 937, 938, 939, 940, 941, 942, 943, 944, 945, 946, 947, 948, 949, 950, 951, 952, 953, 954, 955] (by decide +kernel) (by decide +kernel)
set_option maxRecDepth 20000 in
theorem gL_law_X9_chance : GoodIn wsL_law (wsV RL 77 RX9 yX9_chance wsX9_chance) := goodIn_app (goodIn_of _ (by decide +kernel)) ggL_law_X9_chance
