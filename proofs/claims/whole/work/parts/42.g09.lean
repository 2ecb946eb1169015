set_option maxRecDepth 20000 in
theorem ggL_law_X8_put : GoodIn wsL_law wsX8_put := goodIn_r _ [791, 41, 137, 138, 2, 139, 792, 793, 794, 44, 795, 102, 103, 104, 248, 249, 250, 251, 42, 796, 797, 798, 799, 101, 800, 801, 802, 803, 923, 924, 925, 926, 927, 928, 929, 930, 931, 980, 981, 982, 983] (by decide +kernel) (by decide +kernel)
set_option maxRecDepth 20000 in
theorem gL_law_X8_put : GoodIn wsL_law (wsV RL 143 RX8 yX8_put wsX8_put) := goodIn_app (goodIn_of _ (by decide +kernel)) ggL_law_X8_put
set_option maxRecDepth 20000 in
theorem ggL_law_X9_put : GoodIn wsL_law wsX9_put := goodIn_r _ [807, 269, 270, 5, 271, 150, 151, 152, 808, 809, 810, 811, 124, 125, 126, 272, 273, 274, 275, 276, 812, 813, 814, 815, 127, 932, 933, 934, 935, 936, 937, 938, 939, 940, 941, 942, 943, 944, 945, 946, 947, 948, 949, 950, 951, 952, 953, 954, 955] (by decide +kernel) (by decide +kernel)
set_option maxRecDepth 20000 in
theorem gL_law_X9_put : GoodIn wsL_law (wsV RL 147 RX9 yX9_put wsX9_put) := goodIn_app (goodIn_of _ (by decide +kernel)) ggL_law_X9_put
set_option maxRecDepth 20000 in
theorem ggL_law_X8_get : GoodIn wsL_law wsX8_get := goodIn_r _ [819, 820, 41, 42, 821, 137, 138, 2, 139, 792, 793, 794, 44, 795, 102, 103, 104, 923, 924, 925, 926, 927, 928, 929, 930, 931, 980, 981, 982, 983] (by decide +kernel) (by decide +kernel)
set_option maxRecDepth 20000 in
theorem gL_law_X8_get : GoodIn wsL_law (wsV RL 148 RX8 yX8_get wsX8_get) := goodIn_app (goodIn_of _ (by decide +kernel)) ggL_law_X8_get
set_option maxRecDepth 20000 in
theorem ggL_law_X9_get : GoodIn wsL_law wsX9_get := goodIn_r _ [825, 826, 276, 127, 269, 270, 5, 271, 150, 151, 152, 808, 809, 810, 811, 124, 125, 126, 932, 933, 934, 935, 936, 937, 938, 939, 940, 941, 942, 943, 944, 945, 946, 947, 948, 949, 950, 951, 952, 953, 954, 955] (by decide +kernel) (by decide +kernel)
set_option maxRecDepth 20000 in
theorem gL_law_X9_get : GoodIn wsL_law (wsV RL 151 RX9 yX9_get wsX9_get) := goodIn_app (goodIn_of _ (by decide +kernel)) ggL_law_X9_get
set_option maxRecDepth 20000 in
theorem ggL_law_X8_copy : GoodIn wsL_law wsX8_copy := goodIn_r _ [830, 41, 247, 831, 821, 832, 833, 834, 835, 137, 138, 2, 139, 248, 249, 250, 251, 42, 836, 837, 838, 44, 839, 104, 923, 924, 925, 926, 927, 928, 929, 930, 931, 980, 981, 982, 983] (by decide +kernel) (by decide +kernel)
set_option maxRecDepth 20000 in
theorem gL_law_X8_copy : GoodIn wsL_law (wsV RL 152 RX8 yX8_copy wsX8_copy) := goodIn_app (goodIn_of _ (by decide +kernel)) ggL_law_X8_copy
set_option maxRecDepth 20000 in
theorem ggL_law_X9_copy : GoodIn wsL_law wsX9_copy := goodIn_r _ [843, 124, 125, 126, 128, 127, 269, 270, 5, 271, 150, 151, 152, 272, 273, 274, 275, 276, 932, 933, 934, 935, 936, 937, 938, 939, 940, 941, 942, 943, 944, 945, 946, 947, 948, 949, 950, 951, 952, 953, 954, 955] (by decide +kernel) (by decide +kernel)
set_option maxRecDepth 20000 in
theorem gL_law_X9_copy : GoodIn wsL_law (wsV RL 156 RX9 yX9_copy wsX9_copy) := goodIn_app (goodIn_of _ (by decide +kernel)) ggL_law_X9_copy
set_option maxRecDepth 20000 in
theorem ggL_law_X8_write : GoodIn wsL_law wsX8_write := goodIn_r _ [847, 41, 247, 783, 848, 849, 530, 850, 19, 281, 282, 283, 2, 284, 285, 137, 138, 139, 248, 249, 250, 251, 42, 286, 287, 288, 18, 289, 56, 796, 797, 798, 44, 799, 101, 800, 801, 802, 803, 103, 923, 924, 925, 926, 927, 928, 929, 930, 931, 980, 981, 982, 983, 958, 959, 960, 961] (by decide +kernel) (by decide +kernel)
set_option maxRecDepth 20000 in
theorem gL_law_X8_write : GoodIn wsL_law (wsV RL 157 RX8 yX8_write wsX8_write) := goodIn_app (goodIn_of _ (by decide +kernel)) ggL_law_X8_write
set_option maxRecDepth 20000 in
theorem ggL_law_X9_write : GoodIn wsL_law wsX9_write := goodIn_r _ [854, 124, 126, 115, 294, 295, 296, 5, 297, 239, 235, 236, 237, 238, 213, 114, 147, 148, 149, 150, 151, 152, 240, 241, 242, 269, 270, 271, 272, 273, 274, 275, 276, 812, 813, 814, 815, 127, 125, 932, 933, 934, 935, 936, 937, 938, 939, 940, 941, 942, 943, 944, 945, 946, 947, 948, 949, 950, 951, 952, 953, 954, 955] (by decide +kernel) (by decide +kernel)
set_option maxRecDepth 20000 in
theorem gL_law_X9_write : GoodIn wsL_law (wsV RL 160 RX9 yX9_write wsX9_write) := goodIn_app (goodIn_of _ (by decide +kernel)) ggL_law_X9_write
