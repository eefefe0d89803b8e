/-! the words of the law's callees, 3 -/
set_option maxRecDepth 20000 in
theorem ggL_law_X5_drawn : GoodIn wsL_law wsX5_drawn := goodIn_r _ [663, 21, 300, 664, 78, 665, 666, 22, 489, 490, 2, 491, 492, 493, 494, 495, 232, 20, 233, 234, 184, 235, 236, 185, 186, 187, 43, 44, 45, 46, 47, 496, 497, 498, 499, 310, 311, 312, 48, 313, 314, 315, 316, 317, 318, 319, 320, 321, 322, 323, 324, 325, 326, 327, 328, 329, 330, 331, 332, 333, 334, 335, 336, 337, 338, 339, 340, 341, 342, 343, 344, 667, 668, 669, 670, 671, 672, 673, 674, 675, 438, 439, 440, 441, 442, 443, 345, 346, 347, 348, 349, 350, 351, 437, 820, 821, 822, 823, 824, 825, 826, 827, 828, 829, 850, 851, 852, 853, 854, 855, 856, 857, 858, 859, 860, 861] (by decide +kernel) (by decide +kernel)
set_option maxRecDepth 20000 in
theorem gL_law_X5_drawn : GoodIn wsL_law (wsV RL 123 RX5 yX5_drawn wsX5_drawn) := goodIn_app (goodIn_of _ (by decide +kernel)) ggL_law_X5_drawn
set_option maxRecDepth 20000 in
theorem ggL_law_X6_drawn : GoodIn wsL_law wsX6_drawn := goodIn_r _ [679, 356, 504, 680, 102, 681, 682, 66, 639, 358, 359, 360, 5, 361, 108, 109, 110, 505, 506, 507, 508, 284, 285, 286, 287, 366, 367, 368, 369, 370, 371, 372, 373, 374, 375, 376, 377, 378, 379, 380, 381, 382, 383, 384, 385, 386, 387, 388, 683, 684, 685, 686, 448, 449, 450, 389, 390, 391, 392, 393, 394, 395, 396, 830, 831, 832, 833, 834, 835, 836, 837, 838, 839, 840, 841, 842, 843, 844, 845] (by decide +kernel) (by decide +kernel)
set_option maxRecDepth 20000 in
theorem gL_law_X6_drawn : GoodIn wsL_law (wsV RL 126 RX6 yX6_drawn wsX6_drawn) := goodIn_app (goodIn_of _ (by decide +kernel)) ggL_law_X6_drawn
set_option maxRecDepth 20000 in
theorem ggL_law_X5_image : GoodIn wsL_law wsX5_image := goodIn_r _ [690, 78, 21, 300, 25, 489, 490, 2, 491, 232, 20, 233, 234, 184, 235, 236, 185, 186, 187, 43, 44, 45, 46, 47, 820, 821, 822, 823, 824, 825, 826, 827, 828, 829, 850, 851, 852, 853, 854, 855, 856, 857, 858, 859, 860, 861] (by decide +kernel) (by decide +kernel)
set_option maxRecDepth 20000 in
theorem gL_law_X5_image : GoodIn wsL_law (wsV RL 127 RX5 yX5_image wsX5_image) := goodIn_app (goodIn_of _ (by decide +kernel)) ggL_law_X5_image
set_option maxRecDepth 20000 in
theorem ggL_law_X6_image : GoodIn wsL_law wsX6_image := goodIn_r _ [694, 102, 356, 108, 109, 5, 110, 358, 359, 360, 361, 66, 284, 285, 286, 287, 830, 831, 832, 833, 834, 835, 836, 837, 838, 839, 840, 841, 842, 843, 844, 845] (by decide +kernel) (by decide +kernel)
set_option maxRecDepth 20000 in
theorem gL_law_X6_image : GoodIn wsL_law (wsV RL 130 RX6 yX6_image wsX6_image) := goodIn_app (goodIn_of _ (by decide +kernel)) ggL_law_X6_image
set_option maxRecDepth 20000 in
theorem ggL_law_X5_restore : GoodIn wsL_law wsX5_restore := goodIn_r _ [698, 78, 25, 300, 21, 29, 489, 490, 2, 491, 232, 20, 233, 234, 184, 235, 236, 185, 186, 187, 43, 44, 45, 46, 47, 820, 821, 822, 823, 824, 825, 826, 827, 828, 829, 850, 851, 852, 853, 854, 855, 856, 857, 858, 859, 860, 861, 862, 863, 864] (by decide +kernel) (by decide +kernel)
set_option maxRecDepth 20000 in
theorem gL_law_X5_restore : GoodIn wsL_law (wsV RL 131 RX5 yX5_restore wsX5_restore) := goodIn_app (goodIn_of _ (by decide +kernel)) ggL_law_X5_restore
set_option maxRecDepth 20000 in
theorem ggL_law_X6_restore : GoodIn wsL_law wsX6_restore := goodIn_r _ [702, 102, 66, 356, 244, 108, 109, 5, 110, 284, 285, 286, 287, 830, 831, 832, 833, 834, 835, 836, 837, 838, 839, 840, 841, 842, 843, 844, 845] (by decide +kernel) (by decide +kernel)
set_option maxRecDepth 20000 in
theorem gL_law_X6_restore : GoodIn wsL_law (wsV RL 134 RX6 yX6_restore wsX6_restore) := goodIn_app (goodIn_of _ (by decide +kernel)) ggL_law_X6_restore
set_option maxRecDepth 20000 in
theorem ggL_law_X5_kind : GoodIn wsL_law wsX5_kind := goodIn_r _ [706, 21, 78, 401, 402, 403, 2, 404, 820, 821, 822, 823, 824, 825, 826, 827, 828, 829, 850, 851, 852, 853, 854, 855, 856, 857, 858, 859, 860, 861] (by decide +kernel) (by decide +kernel)
set_option maxRecDepth 20000 in
theorem gL_law_X5_kind : GoodIn wsL_law (wsV RL 135 RX5 yX5_kind wsX5_kind) := goodIn_app (goodIn_of _ (by decide +kernel)) ggL_law_X5_kind
set_option maxRecDepth 20000 in
theorem ggL_law_X6_kind : GoodIn wsL_law wsX6_kind := goodIn_r _ [710, 66, 102, 413, 414, 415, 5, 416, 108, 109, 110, 830, 831, 832, 833, 834, 835, 836, 837, 838, 839, 840, 841, 842, 843, 844, 845] (by decide +kernel) (by decide +kernel)
set_option maxRecDepth 20000 in
theorem gL_law_X6_kind : GoodIn wsL_law (wsV RL 138 RX6 yX6_kind wsX6_kind) := goodIn_app (goodIn_of _ (by decide +kernel)) ggL_law_X6_kind
set_option maxRecDepth 20000 in
theorem ggL_law_X5_as : GoodIn wsL_law wsX5_as := goodIn_r _ [714, 78, 21, 401, 402, 403, 2, 404, 489, 490, 491, 715, 716, 717, 718, 93, 94, 95, 96, 86, 82, 83, 84, 85, 87, 820, 821, 822, 823, 824, 825, 826, 827, 828, 829, 850, 851, 852, 853, 854, 855, 856, 857, 858, 859, 860, 861] (by decide +kernel) (by decide +kernel)
set_option maxRecDepth 20000 in
theorem gL_law_X5_as : GoodIn wsL_law (wsV RL 139 RX5 yX5_as wsX5_as) := goodIn_app (goodIn_of _ (by decide +kernel)) ggL_law_X5_as
set_option maxRecDepth 20000 in
theorem ggL_law_X6_as : GoodIn wsL_law wsX6_as := goodIn_r _ [722, 723, 102, 66, 103, 413, 414, 415, 5, 416, 108, 109, 110, 724, 725, 726, 111, 112, 113, 114, 115, 830, 831, 832, 833, 834, 835, 836, 837, 838, 839, 840, 841, 842, 843, 844, 845] (by decide +kernel) (by decide +kernel)
set_option maxRecDepth 20000 in
theorem gL_law_X6_as : GoodIn wsL_law (wsV RL 142 RX6 yX6_as wsX6_as) := goodIn_app (goodIn_of _ (by decide +kernel)) ggL_law_X6_as
set_option maxRecDepth 20000 in
theorem ggL_law_X5_ask : GoodIn wsL_law wsX5_ask := goodIn_r _ [730, 78, 33, 21, 401, 402, 403, 2, 404, 489, 490, 491, 731, 32, 732, 733, 734, 735, 736, 737, 738, 739, 740, 741, 742, 743, 744, 745, 56, 746, 820, 821, 822, 823, 824, 825, 826, 827, 828, 829, 865, 866, 850, 851, 852, 853, 854, 855, 856, 857, 858, 859, 860, 861] (by decide +kernel) (by decide +kernel)
set_option maxRecDepth 20000 in
theorem gL_law_X5_ask : GoodIn wsL_law (wsV RL 143 RX5 yX5_ask wsX5_ask) := goodIn_app (goodIn_of _ (by decide +kernel)) ggL_law_X5_ask
set_option maxRecDepth 20000 in
theorem ggL_law_X6_ask : GoodIn wsL_law wsX6_ask := goodIn_r _ [750, 102, 751, 66, 413, 414, 415, 5, 416, 108, 109, 110, 752, 753, 754, 755, 756, 757, 758, 759, 73, 760, 761, 762, 763, 764, 765, 766, 767, 768, 769, 770, 771, 772, 773, 774, 775, 776, 777, 778, 779, 780, 781, 782, 783, 784, 785, 786, 787, 830, 831, 832, 833, 834, 835, 836, 837, 838, 839, 840, 841, 842, 843, 844, 845] (by decide +kernel) (by decide +kernel)
set_option maxRecDepth 20000 in
theorem gL_law_X6_ask : GoodIn wsL_law (wsV RL 146 RX6 yX6_ask wsX6_ask) := goodIn_app (goodIn_of _ (by decide +kernel)) ggL_law_X6_ask
set_option maxRecDepth 20000 in
theorem ggL_law_X5_trace : GoodIn wsL_law wsX5_trace := goodIn_r _ [791, 33, 529, 820, 821, 822, 823, 824, 825, 826, 827, 828, 829, 865, 866] (by decide +kernel) (by decide +kernel)
set_option maxRecDepth 20000 in
theorem gL_law_X5_trace : GoodIn wsL_law (wsV RL 147 RX5 yX5_trace wsX5_trace) := goodIn_app (goodIn_of _ (by decide +kernel)) ggL_law_X5_trace
set_option maxRecDepth 20000 in
theorem ggL_law_X6_trace : GoodIn wsL_law wsX6_trace := goodIn_r _ [795, 751, 73, 534, 108, 109, 5, 110, 830, 831, 832, 833, 834, 835, 836, 837, 838, 839, 840, 841, 842, 843, 844, 845] (by decide +kernel) (by decide +kernel)
set_option maxRecDepth 20000 in
theorem gL_law_X6_trace : GoodIn wsL_law (wsV RL 150 RX6 yX6_trace wsX6_trace) := goodIn_app (goodIn_of _ (by decide +kernel)) ggL_law_X6_trace
set_option maxRecDepth 20000 in
theorem ggL_law_X5_count : GoodIn wsL_law wsX5_count := goodIn_r _ [799, 21, 29, 17, 78, 800, 801, 802, 2, 803, 13, 345, 20, 346, 347, 186, 44, 348, 349, 350, 351, 235, 672, 673, 674, 675, 438, 439, 440, 441, 442, 443, 820, 821, 822, 823, 824, 825, 826, 827, 828, 829, 850, 851, 852, 853, 854, 855, 856, 857, 858, 859, 860, 861, 862, 863, 864, 846, 847, 848, 849, 867, 868, 869, 870] (by decide +kernel) (by decide +kernel)
set_option maxRecDepth 20000 in
theorem gL_law_X5_count : GoodIn wsL_law (wsV RL 151 RX5 yX5_count wsX5_count) := goodIn_app (goodIn_of _ (by decide +kernel)) ggL_law_X5_count
set_option maxRecDepth 20000 in
theorem ggL_law_X6_count : GoodIn wsL_law wsX6_count := goodIn_r _ [807, 66, 244, 168, 102, 808, 809, 810, 5, 811, 68, 389, 390, 391, 392, 393, 394, 395, 396, 683, 684, 685, 686, 448, 449, 450, 830, 831, 832, 833, 834, 835, 836, 837, 838, 839, 840, 841, 842, 843, 844, 845] (by decide +kernel) (by decide +kernel)
set_option maxRecDepth 20000 in
theorem gL_law_X6_count : GoodIn wsL_law (wsV RL 154 RX6 yX6_count wsX6_count) := goodIn_app (goodIn_of _ (by decide +kernel)) ggL_law_X6_count
set_option maxRecDepth 20000 in
theorem ggL_law_X5_status : GoodIn wsL_law wsX5_status := goodIn_r _ [815, 86, 820, 821, 822, 823, 824, 825, 826, 827, 828, 829] (by decide +kernel) (by decide +kernel)
set_option maxRecDepth 20000 in
theorem gL_law_X5_status : GoodIn wsL_law (wsV RL 155 RX5 yX5_status wsX5_status) := goodIn_app (goodIn_of _ (by decide +kernel)) ggL_law_X5_status
set_option maxRecDepth 20000 in
theorem ggL_law_X6_status : GoodIn wsL_law wsX6_status := goodIn_r _ [819, 103, 830, 831, 832, 833, 834, 835, 836, 837, 838, 839, 840, 841, 842, 843, 844, 845] (by decide +kernel) (by decide +kernel)
set_option maxRecDepth 20000 in
theorem gL_law_X6_status : GoodIn wsL_law (wsV RL 158 RX6 yX6_status wsX6_status) := goodIn_app (goodIn_of _ (by decide +kernel)) ggL_law_X6_status
