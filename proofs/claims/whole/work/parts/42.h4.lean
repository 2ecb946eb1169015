set_option maxRecDepth 20000 in
theorem ggc_X9_digest_2 : GoodIn wsL_law ((wsX9_digest.drop 80).take 40) := goodIn_r _ [492, 493, 494, 495, 496, 497, 498, 499, 500, 510, 511, 512, 513, 514, 553, 554, 555, 556, 624, 625, 626, 627, 628, 668, 669, 670, 671, 118, 119, 117, 743, 744, 745, 746, 747, 748, 749, 750, 121, 120] (by decide +kernel) (by decide +kernel)
set_option maxRecDepth 20000 in
theorem ggc_X9_digest_3 : GoodIn wsL_law ((wsX9_digest.drop 120).take 40) := goodIn_r _ [122, 569, 570, 571, 572, 607, 608, 609, 610, 585, 586, 587, 588, 692, 693, 694, 695, 759, 760, 761, 762, 932, 933, 934, 935, 936, 937, 938, 939, 940, 941, 942, 943, 944, 945, 946, 947, 948, 949, 950] (by decide +kernel) (by decide +kernel)
set_option maxRecDepth 20000 in
theorem ggc_X9_digest_4 : GoodIn wsL_law (wsX9_digest.drop 160) := goodIn_r _ [951, 952, 953, 954, 955] (by decide +kernel) (by decide +kernel)
theorem ggd_X9_digest_3 : GoodIn wsL_law (wsX9_digest.drop 120) := goodIn_td 40 ggc_X9_digest_3 (by rw [List.drop_drop]; exact ggc_X9_digest_4)
theorem ggd_X9_digest_2 : GoodIn wsL_law (wsX9_digest.drop 80) := goodIn_td 40 ggc_X9_digest_2 (by rw [List.drop_drop]; exact ggd_X9_digest_3)
theorem ggd_X9_digest_1 : GoodIn wsL_law (wsX9_digest.drop 40) := goodIn_td 40 ggc_X9_digest_1 (by rw [List.drop_drop]; exact ggd_X9_digest_2)
theorem ggL_law_X9_digest : GoodIn wsL_law wsX9_digest := goodIn_td 40 ggc_X9_digest_0 ggd_X9_digest_1
set_option maxRecDepth 20000 in
theorem gL_law_X9_digest : GoodIn wsL_law (wsV RL 169 RX9 yX9_digest wsX9_digest) := goodIn_app (goodIn_of _ (by decide +kernel)) ggL_law_X9_digest
