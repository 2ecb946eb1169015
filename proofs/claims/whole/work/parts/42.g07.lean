set_option maxRecDepth 20000 in
theorem ggL_law_X8_lightest : GoodIn wsL_law wsX8_lightest := goodIn_r _ [675, 27, 134, 135, 2, 136, 137, 138, 139, 647, 648, 649, 26, 650, 73, 72, 70, 651, 652, 653, 654, 71, 74, 655, 656, 657, 658, 659, 660, 661, 662, 663, 287, 288, 18, 289, 56, 923, 924, 925, 926, 927, 928, 929, 930, 931, 964, 965, 966, 967, 968, 958, 959, 960, 961] (by decide +kernel) (by decide +kernel)
set_option maxRecDepth 20000 in
theorem gL_law_X8_lightest : GoodIn wsL_law (wsV RL 111 RX8 yX8_lightest wsX8_lightest) := goodIn_app (goodIn_of _ (by decide +kernel)) ggL_law_X8_lightest
set_option maxRecDepth 20000 in
theorem ggL_law_X9_lightest : GoodIn wsL_law wsX9_lightest := goodIn_r _ [679, 147, 148, 5, 149, 150, 151, 152, 668, 669, 670, 671, 642, 118, 239, 119, 117, 115, 235, 236, 237, 238, 213, 114, 240, 241, 242, 932, 933, 934, 935, 936, 937, 938, 939, 940, 941, 942, 943, 944, 945, 946, 947, 948, 949, 950, 951, 952, 953, 954, 955] (by decide +kernel) (by decide +kernel)
set_option maxRecDepth 20000 in
theorem gL_law_X9_lightest : GoodIn wsL_law (wsV RL 114 RX9 yX9_lightest wsX9_lightest) := goodIn_app (goodIn_of _ (by decide +kernel)) ggL_law_X9_lightest
set_option maxRecDepth 20000 in
theorem ggL_law_X8_disputed : GoodIn wsL_law wsX8_disputed := goodIn_r _ [683, 27, 684, 685, 686, 26, 687, 73, 70, 651, 652, 653, 654, 71, 74, 655, 659, 660, 661, 662, 663, 287, 288, 18, 289, 56, 923, 924, 925, 926, 927, 928, 929, 930, 931, 964, 965, 966, 967, 968, 958, 959, 960, 961] (by decide +kernel) (by decide +kernel)
set_option maxRecDepth 20000 in
theorem gL_law_X8_disputed : GoodIn wsL_law (wsV RL 115 RX8 yX8_disputed wsX8_disputed) := goodIn_app (goodIn_of _ (by decide +kernel)) ggL_law_X8_disputed
set_option maxRecDepth 20000 in
theorem ggL_law_X9_disputed : GoodIn wsL_law wsX9_disputed := goodIn_r _ [691, 692, 693, 694, 5, 695, 642, 118, 239, 115, 117, 235, 236, 237, 238, 213, 114, 147, 148, 149, 150, 151, 152, 240, 241, 242, 932, 933, 934, 935, 936, 937, 938, 939, 940, 941, 942, 943, 944, 945, 946, 947, 948, 949, 950, 951, 952, 953, 954, 955] (by decide +kernel) (by decide +kernel)
set_option maxRecDepth 20000 in
theorem gL_law_X9_disputed : GoodIn wsL_law (wsV RL 118 RX9 yX9_disputed wsX9_disputed) := goodIn_app (goodIn_of _ (by decide +kernel)) ggL_law_X9_disputed
set_option maxRecDepth 20000 in
theorem ggL_law_X8_seen : GoodIn wsL_law wsX8_seen := goodIn_r _ [699, 31, 700, 134, 135, 2, 136, 137, 138, 139, 140, 141, 142, 701, 702, 703, 30, 704, 82, 79, 80, 81, 923, 924, 925, 926, 927, 928, 929, 930, 931, 969, 970, 971, 972, 973] (by decide +kernel) (by decide +kernel)
set_option maxRecDepth 20000 in
theorem gL_law_X8_seen : GoodIn wsL_law (wsV RL 119 RX8 yX8_seen wsX8_seen) := goodIn_app (goodIn_of _ (by decide +kernel)) ggL_law_X8_seen
set_option maxRecDepth 20000 in
theorem ggL_law_X9_seen : GoodIn wsL_law wsX9_seen := goodIn_r _ [708, 709, 120, 121, 122, 147, 148, 5, 149, 150, 151, 152, 932, 933, 934, 935, 936, 937, 938, 939, 940, 941, 942, 943, 944, 945, 946, 947, 948, 949, 950, 951, 952, 953, 954, 955] (by decide +kernel) (by decide +kernel)
set_option maxRecDepth 20000 in
theorem gL_law_X9_seen : GoodIn wsL_law (wsV RL 122 RX9 yX9_seen wsX9_seen) := goodIn_app (goodIn_of _ (by decide +kernel)) ggL_law_X9_seen
set_option maxRecDepth 20000 in
theorem ggL_law_X8_forget : GoodIn wsL_law wsX8_forget := goodIn_r _ [713, 27, 31, 137, 138, 2, 139, 714, 715, 716, 26, 717, 73, 718, 719, 720, 30, 721, 82, 923, 924, 925, 926, 927, 928, 929, 930, 931, 964, 965, 966, 967, 968, 969, 970, 971, 972, 973] (by decide +kernel) (by decide +kernel)
set_option maxRecDepth 20000 in
theorem gL_law_X8_forget : GoodIn wsL_law (wsV RL 123 RX8 yX8_forget wsX8_forget) := goodIn_app (goodIn_of _ (by decide +kernel)) ggL_law_X8_forget
set_option maxRecDepth 20000 in
theorem ggL_law_X9_forget : GoodIn wsL_law wsX9_forget := goodIn_r _ [725, 642, 709, 150, 151, 5, 152, 932, 933, 934, 935, 936, 937, 938, 939, 940, 941, 942, 943, 944, 945, 946, 947, 948, 949, 950, 951, 952, 953, 954, 955] (by decide +kernel) (by decide +kernel)
set_option maxRecDepth 20000 in
theorem gL_law_X9_forget : GoodIn wsL_law (wsV RL 126 RX9 yX9_forget wsX9_forget) := goodIn_app (goodIn_of _ (by decide +kernel)) ggL_law_X9_forget
