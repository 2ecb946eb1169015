set_option maxRecDepth 20000 in
theorem ggc_X8_digest_5 : GoodIn wsL_law ((wsX8_digest.drop 200).take 40) := goodIn_r _ [519, 520, 521, 38, 522, 95, 97, 96, 523, 524, 525, 526, 527, 528, 529, 530, 531, 532, 203, 204, 533, 534, 535, 536, 537, 538, 539, 540, 541, 542, 543, 544, 545, 546, 547, 548, 907, 612, 613, 614] (by decide +kernel) (by decide +kernel)
set_option maxRecDepth 20000 in
theorem ggc_X8_digest_6 : GoodIn wsL_law ((wsX8_digest.drop 240).take 40) := goodIn_r _ [615, 616, 617, 618, 619, 908, 644, 645, 646, 647, 648, 649, 26, 650, 73, 72, 70, 651, 652, 653, 654, 71, 74, 655, 656, 657, 658, 659, 660, 661, 662, 663, 909, 727, 728, 729, 730, 731, 732, 733] (by decide +kernel) (by decide +kernel)
set_option maxRecDepth 20000 in
theorem ggc_X8_digest_7 : GoodIn wsL_law ((wsX8_digest.drop 280).take 40) := goodIn_r _ [734, 735, 736, 30, 737, 82, 83, 738, 80, 81, 79, 910, 333, 334, 335, 336, 350, 911, 558, 559, 560, 281, 282, 283, 284, 561, 562, 563, 564, 912, 590, 591, 592, 593, 594, 595, 596, 597, 598, 599] (by decide +kernel) (by decide +kernel)
set_option maxRecDepth 20000 in
theorem ggc_X8_digest_8 : GoodIn wsL_law ((wsX8_digest.drop 320).take 40) := goodIn_r _ [600, 601, 578, 579, 580, 602, 913, 574, 575, 576, 577, 914, 681, 682, 683, 684, 685, 686, 687, 915, 752, 753, 754, 923, 924, 925, 926, 927, 928, 929, 930, 931, 958, 959, 960, 961, 964, 965, 966, 967] (by decide +kernel) (by decide +kernel)
set_option maxRecDepth 20000 in
theorem ggc_X8_digest_9 : GoodIn wsL_law (wsX8_digest.drop 360) := goodIn_r _ [968, 969, 970, 971, 972, 973, 956, 957, 962, 963, 974, 975, 976, 977, 978, 979] (by decide +kernel) (by decide +kernel)
theorem ggd_X8_digest_8 : GoodIn wsL_law (wsX8_digest.drop 320) := goodIn_td 40 ggc_X8_digest_8 (by rw [List.drop_drop]; exact ggc_X8_digest_9)
theorem ggd_X8_digest_7 : GoodIn wsL_law (wsX8_digest.drop 280) := goodIn_td 40 ggc_X8_digest_7 (by rw [List.drop_drop]; exact ggd_X8_digest_8)
theorem ggd_X8_digest_6 : GoodIn wsL_law (wsX8_digest.drop 240) := goodIn_td 40 ggc_X8_digest_6 (by rw [List.drop_drop]; exact ggd_X8_digest_7)
theorem ggd_X8_digest_5 : GoodIn wsL_law (wsX8_digest.drop 200) := goodIn_td 40 ggc_X8_digest_5 (by rw [List.drop_drop]; exact ggd_X8_digest_6)
theorem ggd_X8_digest_4 : GoodIn wsL_law (wsX8_digest.drop 160) := goodIn_td 40 ggc_X8_digest_4 (by rw [List.drop_drop]; exact ggd_X8_digest_5)
theorem ggd_X8_digest_3 : GoodIn wsL_law (wsX8_digest.drop 120) := goodIn_td 40 ggc_X8_digest_3 (by rw [List.drop_drop]; exact ggd_X8_digest_4)
theorem ggd_X8_digest_2 : GoodIn wsL_law (wsX8_digest.drop 80) := goodIn_td 40 ggc_X8_digest_2 (by rw [List.drop_drop]; exact ggd_X8_digest_3)
theorem ggd_X8_digest_1 : GoodIn wsL_law (wsX8_digest.drop 40) := goodIn_td 40 ggc_X8_digest_1 (by rw [List.drop_drop]; exact ggd_X8_digest_2)
theorem ggL_law_X8_digest : GoodIn wsL_law wsX8_digest := goodIn_td 40 ggc_X8_digest_0 ggd_X8_digest_1
set_option maxRecDepth 20000 in
theorem gL_law_X8_digest : GoodIn wsL_law (wsV RL 165 RX8 yX8_digest wsX8_digest) := goodIn_app (goodIn_of _ (by decide +kernel)) ggL_law_X8_digest
