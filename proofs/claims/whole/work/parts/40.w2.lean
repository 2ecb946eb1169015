set_option maxRecDepth 20000 in
theorem in_wsL_law_r9 : ∀ w ∈ wsL_law_r9, w ∈ lw_tbl := fun w h => (goodIn_r wsL_law_r9 [302, 0, 303, 304, 306, 1, 307, 308, 310, 2, 311, 314, 315, 845, 846, 847, 848, 849, 851, 21, 852, 755, 316, 317] (by decide +kernel) (by decide +kernel) w h).1
set_option maxRecDepth 20000 in
theorem in_wsL_law_r10 : ∀ w ∈ wsL_law_r10, w ∈ lw_tbl := fun w h => (goodIn_r wsL_law_r10 [318, 319, 320, 321, 322, 323, 853, 854, 855, 856, 324, 325, 326, 327, 107, 857, 858, 859, 860, 861, 863, 22, 864, 756] (by decide +kernel) (by decide +kernel) w h).1
set_option maxRecDepth 20000 in
theorem in_wsL_law_r11 : ∀ w ∈ wsL_law_r11, w ∈ lw_tbl := fun w h => (goodIn_r wsL_law_r11 [865, 866, 867, 328, 329, 330, 331, 221, 332, 334, 3, 335, 336, 337, 338, 339, 341, 342, 343, 344, 345, 346, 347, 348] (by decide +kernel) (by decide +kernel) w h).1
set_option maxRecDepth 20000 in
theorem in_wsL_law_r12 : ∀ w ∈ wsL_law_r12, w ∈ lw_tbl := fun w h => (goodIn_r wsL_law_r12 [218, 868, 869, 870, 871, 872, 873, 874, 875, 877, 23, 878, 772, 349, 350, 351, 352, 353, 355, 4, 356, 105, 357, 358] (by decide +kernel) (by decide +kernel) w h).1
set_option maxRecDepth 20000 in
theorem in_wsL_law_r13 : ∀ w ∈ wsL_law_r13, w ∈ lw_tbl := fun w h => (goodIn_r wsL_law_r13 [359, 360, 879, 880, 881, 882, 883, 885, 24, 886, 361, 362, 363, 364, 365, 367, 5, 368, 369, 370, 371, 372, 373, 374] (by decide +kernel) (by decide +kernel) w h).1
set_option maxRecDepth 20000 in
theorem in_wsL_law_r14 : ∀ w ∈ wsL_law_r14, w ∈ lw_tbl := fun w h => (goodIn_r wsL_law_r14 [375, 376, 377, 378, 887, 888, 889, 890, 891, 893, 25, 894, 895, 897, 26, 898, 899, 901, 27, 902, 379, 380, 381, 382] (by decide +kernel) (by decide +kernel) w h).1
set_option maxRecDepth 20000 in
theorem in_wsL_law_r15 : ∀ w ∈ wsL_law_r15, w ∈ lw_tbl := fun w h => (goodIn_r wsL_law_r15 [383, 384, 385, 386, 85, 387, 388, 389, 390, 391, 393, 6, 394, 395, 396, 903, 904, 905, 906, 907, 909, 28, 910, 397] (by decide +kernel) (by decide +kernel) w h).1
set_option maxRecDepth 20000 in
theorem in_wsL_law_r16 : ∀ w ∈ wsL_law_r16, w ∈ lw_tbl := fun w h => (goodIn_r wsL_law_r16 [398, 399, 400, 401, 402, 403, 404, 911, 912, 913, 914, 915, 917, 29, 918, 405, 406, 407, 408, 409, 410, 411, 412, 103] (by decide +kernel) (by decide +kernel) w h).1
