set_option maxRecDepth 20000 in
theorem in_wsL_law_r1 : ∀ w ∈ wsL_law_r1, w ∈ lw_tbl := fun w h => (goodIn_r wsL_law_r1 [65, 66, 51, 743, 744, 60, 67, 68, 69, 70, 71, 72, 73, 74, 52, 235, 93, 94, 53, 236, 117, 118, 54, 237] (by decide +kernel) (by decide +kernel) w h).1
set_option maxRecDepth 20000 in
theorem in_wsL_law_r2 : ∀ w ∈ wsL_law_r2, w ∈ lw_tbl := fun w h => (goodIn_r wsL_law_r2 [130, 131, 55, 238, 153, 154, 56, 239, 176, 177, 57, 240, 193, 194, 58, 241, 210, 242, 243, 212, 59, 75, 76, 77] (by decide +kernel) (by decide +kernel) w h).1
set_option maxRecDepth 20000 in
theorem in_wsL_law_r3 : ∀ w ∈ wsL_law_r3, w ∈ lw_tbl := fun w h => (goodIn_r wsL_law_r3 [78, 79, 92, 81, 84, 96, 97, 98, 99, 100, 102, 106, 119, 120, 121, 122, 123, 124, 132, 133, 134, 135, 137, 138] (by decide +kernel) (by decide +kernel) w h).1
set_option maxRecDepth 20000 in
theorem in_wsL_law_r4 : ∀ w ∈ wsL_law_r4, w ∈ lw_tbl := fun w h => (goodIn_r wsL_law_r4 [139, 140, 136, 155, 156, 157, 158, 160, 161, 162, 163, 159, 179, 180, 181, 182, 184, 185, 195, 196, 197, 198, 199, 201] (by decide +kernel) (by decide +kernel) w h).1
set_option maxRecDepth 20000 in
theorem in_wsL_law_r5 : ∀ w ∈ wsL_law_r5, w ∈ lw_tbl := fun w h => (goodIn_r wsL_law_r5 [202, 200, 214, 215, 216, 217, 220, 222, 224, 745, 746, 747, 748, 749, 750, 751, 752, 753, 754, 757, 758, 760, 761, 762] (by decide +kernel) (by decide +kernel) w h).1
set_option maxRecDepth 20000 in
theorem in_wsL_law_r6 : ∀ w ∈ wsL_law_r6, w ∈ lw_tbl := fun w h => (goodIn_r wsL_law_r6 [764, 765, 766, 822, 767, 768, 769, 770, 771, 263, 264, 265, 266, 82, 267, 268, 269, 270, 271, 272, 273, 274, 275, 823] (by decide +kernel) (by decide +kernel) w h).1
set_option maxRecDepth 20000 in
theorem in_wsL_law_r7 : ∀ w ∈ wsL_law_r7, w ∈ lw_tbl := fun w h => (goodIn_r wsL_law_r7 [824, 825, 826, 827, 828, 829, 830, 831, 832, 276, 277, 278, 279, 86, 833, 834, 835, 836, 280, 281, 282, 283, 284, 285] (by decide +kernel) (by decide +kernel) w h).1
set_option maxRecDepth 20000 in
theorem in_wsL_law_r8 : ∀ w ∈ wsL_law_r8, w ∈ lw_tbl := fun w h => (goodIn_r wsL_law_r8 [286, 287, 837, 838, 839, 840, 841, 843, 20, 844, 288, 289, 290, 291, 101, 292, 293, 294, 295, 296, 297, 298, 299, 300] (by decide +kernel) (by decide +kernel) w h).1
