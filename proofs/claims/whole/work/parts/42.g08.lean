set_option maxRecDepth 20000 in
theorem ggL_law_X8_could : GoodIn wsL_law wsX8_could := goodIn_r _ [729, 35, 134, 135, 2, 136, 137, 138, 139, 730, 731, 732, 733, 412, 31, 734, 735, 736, 30, 737, 82, 83, 738, 80, 81, 79, 417, 418, 419, 34, 420, 88, 89, 421, 422, 423, 424, 425, 426, 427, 428, 429, 430, 431, 432, 433, 434, 435, 87, 436, 437, 438, 439, 440, 441, 442, 443, 476, 477, 478, 479, 923, 924, 925, 926, 927, 928, 929, 930, 931, 974, 975, 976, 969, 970, 971, 972, 973, 956, 957] (by decide +kernel) (by decide +kernel)
set_option maxRecDepth 20000 in
theorem gL_law_X8_could : GoodIn wsL_law (wsV RL 127 RX8 yX8_could wsX8_could) := goodIn_app (goodIn_of _ (by decide +kernel)) ggL_law_X8_could
set_option maxRecDepth 20000 in
theorem ggL_law_X9_could : GoodIn wsL_law wsX9_could := goodIn_r _ [742, 147, 148, 5, 149, 150, 151, 152, 743, 744, 745, 746, 116, 460, 461, 462, 463, 240, 241, 242, 747, 748, 749, 750, 709, 121, 109, 110, 120, 122, 932, 933, 934, 935, 936, 937, 938, 939, 940, 941, 942, 943, 944, 945, 946, 947, 948, 949, 950, 951, 952, 953, 954, 955] (by decide +kernel) (by decide +kernel)
set_option maxRecDepth 20000 in
theorem gL_law_X9_could : GoodIn wsL_law (wsV RL 130 RX9 yX9_could wsX9_could) := goodIn_app (goodIn_of _ (by decide +kernel)) ggL_law_X9_could
set_option maxRecDepth 20000 in
theorem ggL_law_X8_isFalse : GoodIn wsL_law wsX8_isFalse := goodIn_r _ [754, 31, 734, 735, 736, 30, 737, 82, 83, 738, 80, 81, 79, 923, 924, 925, 926, 927, 928, 929, 930, 931, 969, 970, 971, 972, 973, 956, 957] (by decide +kernel) (by decide +kernel)
set_option maxRecDepth 20000 in
theorem gL_law_X8_isFalse : GoodIn wsL_law (wsV RL 131 RX8 yX8_isFalse wsX8_isFalse) := goodIn_app (goodIn_of _ (by decide +kernel)) ggL_law_X8_isFalse
set_option maxRecDepth 20000 in
theorem ggL_law_X9_isFalse : GoodIn wsL_law wsX9_isFalse := goodIn_r _ [758, 759, 760, 761, 5, 762, 747, 748, 749, 750, 709, 121, 109, 110, 120, 122, 932, 933, 934, 935, 936, 937, 938, 939, 940, 941, 942, 943, 944, 945, 946, 947, 948, 949, 950, 951, 952, 953, 954, 955] (by decide +kernel) (by decide +kernel)
set_option maxRecDepth 20000 in
theorem gL_law_X9_isFalse : GoodIn wsL_law (wsV RL 134 RX9 yX9_isFalse wsX9_isFalse) := goodIn_app (goodIn_of _ (by decide +kernel)) ggL_law_X9_isFalse
set_option maxRecDepth 20000 in
theorem ggL_law_X8_sheet : GoodIn wsL_law wsX8_sheet := goodIn_r _ [766, 41, 137, 138, 2, 139, 248, 249, 250, 251, 42, 767, 768, 769, 44, 770, 101, 102, 103, 104, 771, 772, 773, 774, 923, 924, 925, 926, 927, 928, 929, 930, 931, 980, 981, 982, 983] (by decide +kernel) (by decide +kernel)
set_option maxRecDepth 20000 in
theorem gL_law_X8_sheet : GoodIn wsL_law (wsV RL 135 RX8 yX8_sheet wsX8_sheet) := goodIn_app (goodIn_of _ (by decide +kernel)) ggL_law_X8_sheet
set_option maxRecDepth 20000 in
theorem ggL_law_X9_sheet : GoodIn wsL_law wsX9_sheet := goodIn_r _ [778, 124, 125, 126, 127, 269, 270, 5, 271, 150, 151, 152, 272, 273, 274, 275, 276, 932, 933, 934, 935, 936, 937, 938, 939, 940, 941, 942, 943, 944, 945, 946, 947, 948, 949, 950, 951, 952, 953, 954, 955] (by decide +kernel) (by decide +kernel)
set_option maxRecDepth 20000 in
theorem gL_law_X9_sheet : GoodIn wsL_law (wsV RL 138 RX9 yX9_sheet wsX9_sheet) := goodIn_app (goodIn_of _ (by decide +kernel)) ggL_law_X9_sheet
set_option maxRecDepth 20000 in
theorem ggL_law_X8_lose : GoodIn wsL_law wsX8_lose := goodIn_r _ [782, 41, 247, 783, 137, 138, 2, 139, 248, 249, 250, 251, 42, 923, 924, 925, 926, 927, 928, 929, 930, 931, 980, 981, 982, 983] (by decide +kernel) (by decide +kernel)
set_option maxRecDepth 20000 in
theorem gL_law_X8_lose : GoodIn wsL_law (wsV RL 139 RX8 yX8_lose wsX8_lose) := goodIn_app (goodIn_of _ (by decide +kernel)) ggL_law_X8_lose
set_option maxRecDepth 20000 in
theorem ggL_law_X9_lose : GoodIn wsL_law wsX9_lose := goodIn_r _ [787, 124, 126, 269, 270, 5, 271, 150, 151, 152, 272, 273, 274, 275, 276, 932, 933, 934, 935, 936, 937, 938, 939, 940, 941, 942, 943, 944, 945, 946, 947, 948, 949, 950, 951, 952, 953, 954, 955] (by decide +kernel) (by decide +kernel)
set_option maxRecDepth 20000 in
theorem gL_law_X9_lose : GoodIn wsL_law (wsV RL 142 RX9 yX9_lose wsX9_lose) := goodIn_app (goodIn_of _ (by decide +kernel)) ggL_law_X9_lose
