/-! the words of the law's callees, 0 -/
set_option maxRecDepth 20000 in
theorem ggL_law_X5_init : GoodIn wsL_law wsX5_init := goodIn_r _ [8, 9, 10, 11, 12, 13, 14, 15, 16, 17, 18, 19, 20, 21, 22, 23, 24, 25, 26, 27, 28, 29, 30, 31, 32, 33, 34, 35, 36, 37, 38, 39, 40, 41, 42, 43, 44, 45, 46, 47, 48, 49, 50, 51, 52, 53, 54, 55, 56, 57, 58, 59, 60, 61, 820, 821, 822, 823, 824, 825, 826, 827, 828, 829, 846, 847, 848, 849, 850, 851, 852, 853, 854, 855, 856, 857, 858, 859, 860, 861, 862, 863, 864, 865, 866, 867, 868, 869, 870] (by decide +kernel) (by decide +kernel)
set_option maxRecDepth 20000 in
theorem gL_law_X5_init : GoodIn wsL_law (wsX5_init) := ggL_law_X5_init
set_option maxRecDepth 20000 in
theorem ggL_law_X6_init : GoodIn wsL_law wsX6_init := goodIn_r _ [64, 65, 10, 11, 23, 66, 67, 68, 69, 70, 71, 72, 73, 830, 831, 832, 833, 834, 835, 836, 837, 838, 839, 840, 841, 842, 843, 844, 845] (by decide +kernel) (by decide +kernel)
set_option maxRecDepth 20000 in
theorem gL_law_X6_init : GoodIn wsL_law (wsX6_init) := ggL_law_X6_init
set_option maxRecDepth 20000 in
theorem ggL_law_X5_row : GoodIn wsL_law wsX5_row := goodIn_r _ [77, 78, 13, 79, 80, 2, 81, 82, 83, 84, 85, 86, 87, 88, 35, 89, 90, 61, 91, 92, 60, 93, 94, 95, 96, 820, 821, 822, 823, 824, 825, 826, 827, 828, 829, 867, 868, 869, 870] (by decide +kernel) (by decide +kernel)
set_option maxRecDepth 20000 in
theorem gL_law_X5_row : GoodIn wsL_law (wsV RL 13 RX5 yX5_row wsX5_row) := goodIn_app (goodIn_of _ (by decide +kernel)) ggL_law_X5_row
set_option maxRecDepth 20000 in
theorem ggL_law_X6_row : GoodIn wsL_law wsX6_row := goodIn_r _ [100, 101, 102, 103, 68, 69, 70, 104, 105, 5, 106, 107, 108, 109, 110, 111, 112, 113, 114, 115, 830, 831, 832, 833, 834, 835, 836, 837, 838, 839, 840, 841, 842, 843, 844, 845] (by decide +kernel) (by decide +kernel)
set_option maxRecDepth 20000 in
theorem gL_law_X6_row : GoodIn wsL_law (wsV RL 17 RX6 yX6_row wsX6_row) := goodIn_app (goodIn_of _ (by decide +kernel)) ggL_law_X6_row
set_option maxRecDepth 20000 in
theorem ggL_law_X5_set : GoodIn wsL_law wsX5_set := goodIn_r _ [119, 78, 13, 79, 80, 2, 81, 82, 83, 84, 85, 86, 87, 120, 35, 121, 122, 92, 123, 124, 125, 91, 93, 94, 95, 96, 820, 821, 822, 823, 824, 825, 826, 827, 828, 829, 867, 868, 869, 870] (by decide +kernel) (by decide +kernel)
set_option maxRecDepth 20000 in
theorem gL_law_X5_set : GoodIn wsL_law (wsV RL 18 RX5 yX5_set wsX5_set) := goodIn_app (goodIn_of _ (by decide +kernel)) ggL_law_X5_set
set_option maxRecDepth 20000 in
theorem ggL_law_X6_set : GoodIn wsL_law wsX6_set := goodIn_r _ [129, 102, 103, 70, 69, 104, 105, 5, 106, 107, 108, 109, 110, 130, 131, 132, 133, 68, 111, 112, 113, 114, 115, 830, 831, 832, 833, 834, 835, 836, 837, 838, 839, 840, 841, 842, 843, 844, 845] (by decide +kernel) (by decide +kernel)
set_option maxRecDepth 20000 in
theorem gL_law_X6_set : GoodIn wsL_law (wsV RL 21 RX6 yX6_set wsX6_set) := goodIn_app (goodIn_of _ (by decide +kernel)) ggL_law_X6_set
set_option maxRecDepth 20000 in
theorem ggL_law_X5_copy : GoodIn wsL_law wsX5_copy := goodIn_r _ [137, 78, 13, 138, 139, 140, 141, 79, 80, 2, 81, 82, 83, 84, 85, 86, 87, 120, 35, 121, 122, 92, 93, 94, 95, 96, 820, 821, 822, 823, 824, 825, 826, 827, 828, 829, 867, 868, 869, 870] (by decide +kernel) (by decide +kernel)
set_option maxRecDepth 20000 in
theorem gL_law_X5_copy : GoodIn wsL_law (wsV RL 22 RX5 yX5_copy wsX5_copy) := goodIn_app (goodIn_of _ (by decide +kernel)) ggL_law_X5_copy
set_option maxRecDepth 20000 in
theorem ggL_law_X6_copy : GoodIn wsL_law wsX6_copy := goodIn_r _ [145, 102, 68, 69, 103, 71, 70, 104, 105, 5, 106, 107, 108, 109, 110, 111, 112, 113, 114, 115, 130, 131, 132, 133, 830, 831, 832, 833, 834, 835, 836, 837, 838, 839, 840, 841, 842, 843, 844, 845] (by decide +kernel) (by decide +kernel)
set_option maxRecDepth 20000 in
theorem gL_law_X6_copy : GoodIn wsL_law (wsV RL 26 RX6 yX6_copy wsX6_copy) := goodIn_app (goodIn_of _ (by decide +kernel)) ggL_law_X6_copy
set_option maxRecDepth 20000 in
theorem ggL_law_X5_drop : GoodIn wsL_law wsX5_drop := goodIn_r _ [149, 78, 13, 79, 80, 2, 81, 82, 83, 84, 85, 86, 87, 93, 94, 95, 96, 820, 821, 822, 823, 824, 825, 826, 827, 828, 829, 867, 868, 869, 870] (by decide +kernel) (by decide +kernel)
set_option maxRecDepth 20000 in
theorem gL_law_X5_drop : GoodIn wsL_law (wsV RL 27 RX5 yX5_drop wsX5_drop) := goodIn_app (goodIn_of _ (by decide +kernel)) ggL_law_X5_drop
set_option maxRecDepth 20000 in
theorem ggL_law_X6_drop : GoodIn wsL_law wsX6_drop := goodIn_r _ [153, 102, 68, 103, 104, 105, 5, 106, 107, 108, 109, 110, 111, 112, 113, 114, 115, 830, 831, 832, 833, 834, 835, 836, 837, 838, 839, 840, 841, 842, 843, 844, 845] (by decide +kernel) (by decide +kernel)
set_option maxRecDepth 20000 in
theorem gL_law_X6_drop : GoodIn wsL_law (wsV RL 31 RX6 yX6_drop wsX6_drop) := goodIn_app (goodIn_of _ (by decide +kernel)) ggL_law_X6_drop
set_option maxRecDepth 20000 in
theorem ggL_law_X5_feed : GoodIn wsL_law wsX5_feed := goodIn_r _ [157, 78, 17, 158, 159, 16, 160, 161, 162, 39, 820, 821, 822, 823, 824, 825, 826, 827, 828, 829, 846, 847, 848, 849] (by decide +kernel) (by decide +kernel)
set_option maxRecDepth 20000 in
theorem gL_law_X5_feed : GoodIn wsL_law (wsV RL 32 RX5 yX5_feed wsX5_feed) := goodIn_app (goodIn_of _ (by decide +kernel)) ggL_law_X5_feed
set_option maxRecDepth 20000 in
theorem ggL_law_X6_feed : GoodIn wsL_law wsX6_feed := goodIn_r _ [166, 167, 102, 168, 169, 67, 108, 109, 5, 110, 830, 831, 832, 833, 834, 835, 836, 837, 838, 839, 840, 841, 842, 843, 844, 845] (by decide +kernel) (by decide +kernel)
set_option maxRecDepth 20000 in
theorem gL_law_X6_feed : GoodIn wsL_law (wsV RL 35 RX6 yX6_feed wsX6_feed) := goodIn_app (goodIn_of _ (by decide +kernel)) ggL_law_X6_feed
set_option maxRecDepth 20000 in
theorem ggL_law_X5_road : GoodIn wsL_law wsX5_road := goodIn_r _ [173, 17, 22, 174, 175, 21, 29, 176, 16, 177, 178, 179, 180, 181, 20, 182, 183, 184, 185, 186, 187, 44, 188, 189, 190, 191, 192, 193, 194, 195, 196, 197, 198, 199, 200, 201, 202, 203, 162, 39, 204, 205, 206, 207, 208, 209, 210, 211, 212, 213, 214, 215, 216, 217, 218, 219, 220, 221, 222, 223, 224, 225, 226, 227, 228, 229, 230, 231, 232, 233, 234, 235, 236, 43, 45, 46, 47, 820, 821, 822, 823, 824, 825, 826, 827, 828, 829, 846, 847, 848, 849, 862, 863, 864, 850, 851, 852, 853, 854, 855, 856, 857, 858, 859, 860, 861] (by decide +kernel) (by decide +kernel)
set_option maxRecDepth 20000 in
theorem gL_law_X5_road : GoodIn wsL_law (wsV RL 36 RX5 yX5_road wsX5_road) := goodIn_app (goodIn_of _ (by decide +kernel)) ggL_law_X5_road
set_option maxRecDepth 20000 in
theorem ggL_law_X6_road : GoodIn wsL_law wsX6_road := goodIn_r _ [240, 66, 241, 168, 242, 243, 244, 245, 246, 247, 5, 248, 249, 250, 251, 252, 253, 254, 255, 256, 257, 258, 259, 260, 261, 67, 262, 263, 264, 265, 266, 267, 268, 269, 270, 271, 272, 101, 108, 109, 110, 273, 274, 275, 276, 277, 278, 279, 280, 281, 282, 283, 284, 285, 286, 287, 830, 831, 832, 833, 834, 835, 836, 837, 838, 839, 840, 841, 842, 843, 844, 845] (by decide +kernel) (by decide +kernel)
set_option maxRecDepth 20000 in
theorem gL_law_X6_road : GoodIn wsL_law (wsV RL 40 RX6 yX6_road wsX6_road) := goodIn_app (goodIn_of _ (by decide +kernel)) ggL_law_X6_road
set_option maxRecDepth 20000 in
theorem ggL_law_X5_fault : GoodIn wsL_law wsX5_fault := goodIn_r _ [291, 174, 820, 821, 822, 823, 824, 825, 826, 827, 828, 829] (by decide +kernel) (by decide +kernel)
set_option maxRecDepth 20000 in
theorem gL_law_X5_fault : GoodIn wsL_law (wsV RL 41 RX5 yX5_fault wsX5_fault) := goodIn_app (goodIn_of _ (by decide +kernel)) ggL_law_X5_fault
set_option maxRecDepth 20000 in
theorem ggL_law_X6_fault : GoodIn wsL_law wsX6_fault := goodIn_r _ [295, 266, 830, 831, 832, 833, 834, 835, 836, 837, 838, 839, 840, 841, 842, 843, 844, 845] (by decide +kernel) (by decide +kernel)
set_option maxRecDepth 20000 in
theorem gL_law_X6_fault : GoodIn wsL_law (wsV RL 44 RX6 yX6_fault wsX6_fault) := goodIn_app (goodIn_of _ (by decide +kernel)) ggL_law_X6_fault
set_option maxRecDepth 20000 in
theorem ggL_law_X5_hours : GoodIn wsL_law wsX5_hours := goodIn_r _ [299, 21, 300, 78, 158, 29, 301, 28, 302, 303, 304, 52, 305, 306, 307, 308, 309, 310, 20, 311, 312, 186, 48, 187, 185, 313, 314, 315, 316, 46, 317, 318, 319, 320, 44, 47, 321, 322, 323, 324, 45, 43, 325, 326, 327, 328, 235, 329, 330, 331, 332, 333, 334, 335, 336, 236, 337, 338, 339, 340, 341, 342, 343, 344, 345, 346, 347, 348, 349, 350, 351, 820, 821, 822, 823, 824, 825, 826, 827, 828, 829, 850, 851, 852, 853, 854, 855, 856, 857, 858, 859, 860, 861, 862, 863, 864] (by decide +kernel) (by decide +kernel)
set_option maxRecDepth 20000 in
theorem gL_law_X5_hours : GoodIn wsL_law (wsV RL 45 RX5 yX5_hours wsX5_hours) := goodIn_app (goodIn_of _ (by decide +kernel)) ggL_law_X5_hours
set_option maxRecDepth 20000 in
theorem ggL_law_X6_hours : GoodIn wsL_law wsX6_hours := goodIn_r _ [355, 356, 357, 102, 66, 169, 358, 359, 360, 5, 361, 108, 109, 110, 362, 363, 364, 365, 244, 284, 285, 286, 287, 366, 367, 368, 369, 370, 371, 372, 373, 374, 375, 376, 377, 378, 379, 380, 381, 382, 383, 384, 385, 386, 387, 388, 389, 390, 391, 392, 393, 394, 395, 396, 830, 831, 832, 833, 834, 835, 836, 837, 838, 839, 840, 841, 842, 843, 844, 845] (by decide +kernel) (by decide +kernel)
set_option maxRecDepth 20000 in
theorem gL_law_X6_hours : GoodIn wsL_law (wsV RL 48 RX6 yX6_hours wsX6_hours) := goodIn_app (goodIn_of _ (by decide +kernel)) ggL_law_X6_hours
