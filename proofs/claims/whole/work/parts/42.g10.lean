set_option maxRecDepth 20000 in
theorem ggL_law_X8_count : GoodIn wsL_law wsX8_count := goodIn_r _ [858, 19, 285, 182, 27, 633, 31, 700, 15, 23, 42, 859, 860, 861, 14, 862, 863, 414, 415, 416, 315, 167, 168, 169, 51, 52, 864, 426, 427, 428, 429, 430, 431, 865, 866, 867, 22, 868, 65, 383, 869, 307, 308, 309, 64, 310, 287, 288, 18, 289, 56, 311, 312, 313, 314, 870, 871, 872, 873, 874, 337, 338, 339, 340, 341, 342, 343, 344, 345, 346, 347, 348, 349, 875, 876, 877, 878, 923, 924, 925, 926, 927, 928, 929, 930, 931, 958, 959, 960, 961, 964, 965, 966, 967, 968, 969, 970, 971, 972, 973, 956, 957, 962, 963] (by decide +kernel) (by decide +kernel)
set_option maxRecDepth 20000 in
theorem gL_law_X8_count : GoodIn wsL_law (wsV RL 161 RX8 yX8_count wsX8_count) := goodIn_app (goodIn_of _ (by decide +kernel)) ggL_law_X8_count
set_option maxRecDepth 20000 in
theorem ggL_law_X9_count : GoodIn wsL_law wsX9_count := goodIn_r _ [882, 213, 642, 709, 276, 883, 884, 885, 5, 886, 239, 235, 236, 237, 238, 114, 115, 147, 148, 149, 150, 151, 152, 240, 241, 242, 174, 175, 176, 177, 109, 111, 110, 112, 324, 325, 326, 327, 328, 329, 330, 331, 113, 355, 356, 357, 358, 932, 933, 934, 935, 936, 937, 938, 939, 940, 941, 942, 943, 944, 945, 946, 947, 948, 949, 950, 951, 952, 953, 954, 955] (by decide +kernel) (by decide +kernel)
set_option maxRecDepth 20000 in
theorem gL_law_X9_count : GoodIn wsL_law (wsV RL 164 RX9 yX9_count wsX9_count) := goodIn_app (goodIn_of _ (by decide +kernel)) ggL_law_X9_count
