set_option maxRecDepth 20000 in
theorem ggL_law_X8_init : GoodIn wsL_law wsX8_init := goodIn_r _ [8, 9, 10, 11, 12, 13, 14, 15, 16, 17, 18, 19, 20, 21, 22, 23, 24, 25, 26, 27, 28, 29, 30, 31, 32, 33, 34, 35, 36, 37, 38, 39, 40, 41, 42, 43, 44, 45, 46, 47, 48, 49, 50, 51, 52, 53, 54, 55, 56, 57, 58, 59, 60, 61, 62, 63, 64, 65, 66, 67, 68, 69, 70, 71, 72, 73, 74, 75, 76, 77, 78, 79, 80, 81, 82, 83, 84, 85, 86, 87, 88, 89, 90, 91, 92, 93, 94, 95, 96, 97, 98, 99, 100, 101, 102, 103, 104, 956, 957, 923, 924, 925, 926, 927, 928, 929, 930, 931, 958, 959, 960, 961, 962, 963, 964, 965, 966, 967, 968, 969, 970, 971, 972, 973, 974, 975, 976, 977, 978, 979, 980, 981, 982, 983] (by decide +kernel) (by decide +kernel)
set_option maxRecDepth 20000 in
theorem gL_law_X8_init : GoodIn wsL_law (wsX8_init) := ggL_law_X8_init
set_option maxRecDepth 20000 in
theorem ggL_law_X9_init : GoodIn wsL_law wsX9_init := goodIn_r _ [107, 108, 10, 11, 50, 109, 110, 111, 112, 113, 114, 115, 116, 117, 118, 119, 120, 121, 122, 123, 124, 125, 126, 127, 128, 932, 933, 934, 935, 936, 937, 938, 939, 940, 941, 942, 943, 944, 945, 946, 947, 948, 949, 950, 951, 952, 953, 954, 955] (by decide +kernel) (by decide +kernel)
set_option maxRecDepth 20000 in
theorem gL_law_X9_init : GoodIn wsL_law (wsX9_init) := ggL_law_X9_init
set_option maxRecDepth 20000 in
theorem ggL_law_X8_hull : GoodIn wsL_law wsX8_hull := goodIn_r _ [132, 15, 133, 134, 135, 2, 136, 137, 138, 139, 140, 141, 142, 923, 924, 925, 926, 927, 928, 929, 930, 931, 956, 957] (by decide +kernel) (by decide +kernel)
set_option maxRecDepth 20000 in
theorem gL_law_X8_hull : GoodIn wsL_law (wsV RL 13 RX8 yX8_hull wsX8_hull) := goodIn_app (goodIn_of _ (by decide +kernel)) ggL_law_X8_hull
set_option maxRecDepth 20000 in
theorem ggL_law_X9_hull : GoodIn wsL_law wsX9_hull := goodIn_r _ [146, 109, 110, 147, 148, 5, 149, 150, 151, 152, 932, 933, 934, 935, 936, 937, 938, 939, 940, 941, 942, 943, 944, 945, 946, 947, 948, 949, 950, 951, 952, 953, 954, 955] (by decide +kernel) (by decide +kernel)
set_option maxRecDepth 20000 in
theorem gL_law_X9_hull : GoodIn wsL_law (wsV RL 17 RX9 yX9_hull wsX9_hull) := goodIn_app (goodIn_of _ (by decide +kernel)) ggL_law_X9_hull
set_option maxRecDepth 20000 in
theorem ggL_law_X8_name : GoodIn wsL_law wsX8_name := goodIn_r _ [156, 15, 157, 134, 135, 2, 136, 137, 138, 139, 140, 141, 142, 923, 924, 925, 926, 927, 928, 929, 930, 931, 956, 957] (by decide +kernel) (by decide +kernel)
set_option maxRecDepth 20000 in
theorem gL_law_X8_name : GoodIn wsL_law (wsV RL 18 RX8 yX8_name wsX8_name) := goodIn_app (goodIn_of _ (by decide +kernel)) ggL_law_X8_name
set_option maxRecDepth 20000 in
theorem ggL_law_X9_name : GoodIn wsL_law wsX9_name := goodIn_r _ [161, 111, 112, 113, 147, 148, 5, 149, 150, 151, 152, 932, 933, 934, 935, 936, 937, 938, 939, 940, 941, 942, 943, 944, 945, 946, 947, 948, 949, 950, 951, 952, 953, 954, 955] (by decide +kernel) (by decide +kernel)
set_option maxRecDepth 20000 in
theorem gL_law_X9_name : GoodIn wsL_law (wsV RL 21 RX9 yX9_name wsX9_name) := goodIn_app (goodIn_of _ (by decide +kernel)) ggL_law_X9_name
set_option maxRecDepth 20000 in
theorem ggL_law_X8_fits : GoodIn wsL_law wsX8_fits := goodIn_r _ [165, 15, 134, 135, 2, 136, 137, 138, 139, 166, 167, 168, 14, 169, 51, 52, 923, 924, 925, 926, 927, 928, 929, 930, 931, 956, 957] (by decide +kernel) (by decide +kernel)
set_option maxRecDepth 20000 in
theorem gL_law_X8_fits : GoodIn wsL_law (wsV RL 22 RX8 yX8_fits wsX8_fits) := goodIn_app (goodIn_of _ (by decide +kernel)) ggL_law_X8_fits
set_option maxRecDepth 20000 in
theorem ggL_law_X9_fits : GoodIn wsL_law wsX9_fits := goodIn_r _ [173, 147, 148, 5, 149, 150, 151, 152, 174, 175, 176, 177, 109, 111, 110, 112, 932, 933, 934, 935, 936, 937, 938, 939, 940, 941, 942, 943, 944, 945, 946, 947, 948, 949, 950, 951, 952, 953, 954, 955] (by decide +kernel) (by decide +kernel)
set_option maxRecDepth 20000 in
theorem gL_law_X9_fits : GoodIn wsL_law (wsV RL 26 RX9 yX9_fits wsX9_fits) := goodIn_app (goodIn_of _ (by decide +kernel)) ggL_law_X9_fits
