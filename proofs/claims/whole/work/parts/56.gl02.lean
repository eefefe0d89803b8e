/-! the words of the law's callees, 2 -/
set_option maxRecDepth 20000 in
theorem ggL_law_X5_first : GoodIn wsL_law wsX5_first := goodIn_r _ [538, 21, 300, 78, 529, 22, 489, 490, 2, 491, 525, 526, 527, 528, 492, 493, 494, 495, 232, 20, 233, 234, 184, 235, 236, 185, 186, 187, 43, 44, 45, 46, 47, 496, 497, 498, 499, 310, 311, 312, 48, 313, 314, 315, 316, 317, 318, 319, 320, 321, 322, 323, 324, 325, 326, 327, 328, 329, 330, 331, 332, 333, 334, 335, 336, 337, 338, 339, 340, 341, 342, 343, 344, 345, 346, 347, 348, 349, 350, 351, 539, 540, 541, 820, 821, 822, 823, 824, 825, 826, 827, 828, 829, 850, 851, 852, 853, 854, 855, 856, 857, 858, 859, 860, 861] (by decide +kernel) (by decide +kernel)
set_option maxRecDepth 20000 in
theorem gL_law_X5_first : GoodIn wsL_law (wsV RL 86 RX5 yX5_first wsX5_first) := goodIn_app (goodIn_of _ (by decide +kernel)) ggL_law_X5_first
set_option maxRecDepth 20000 in
theorem ggL_law_X6_first : GoodIn wsL_law wsX6_first := goodIn_r _ [545, 356, 102, 534, 358, 359, 360, 5, 361, 66, 108, 109, 110, 505, 506, 507, 508, 284, 285, 286, 287, 389, 390, 391, 392, 393, 394, 395, 396, 546, 547, 548, 549, 374, 375, 376, 366, 367, 368, 369, 370, 371, 372, 373, 377, 378, 379, 380, 381, 382, 383, 384, 385, 386, 387, 388, 830, 831, 832, 833, 834, 835, 836, 837, 838, 839, 840, 841, 842, 843, 844, 845] (by decide +kernel) (by decide +kernel)
set_option maxRecDepth 20000 in
theorem gL_law_X6_first : GoodIn wsL_law (wsV RL 89 RX6 yX6_first wsX6_first) := goodIn_app (goodIn_of _ (by decide +kernel)) ggL_law_X6_first
set_option maxRecDepth 20000 in
theorem ggL_law_X5_left : GoodIn wsL_law wsX5_left := goodIn_r _ [553, 21, 300, 78, 22, 489, 490, 2, 491, 492, 493, 494, 495, 232, 20, 233, 234, 184, 235, 236, 185, 186, 187, 43, 44, 45, 46, 47, 496, 497, 498, 499, 310, 311, 312, 48, 313, 314, 315, 316, 317, 318, 319, 320, 321, 322, 323, 324, 325, 326, 327, 328, 329, 330, 331, 332, 333, 334, 335, 336, 337, 338, 339, 340, 341, 342, 343, 344, 349, 350, 351, 554, 555, 556, 820, 821, 822, 823, 824, 825, 826, 827, 828, 829, 850, 851, 852, 853, 854, 855, 856, 857, 858, 859, 860, 861] (by decide +kernel) (by decide +kernel)
set_option maxRecDepth 20000 in
theorem gL_law_X5_left : GoodIn wsL_law (wsV RL 90 RX5 yX5_left wsX5_left) := goodIn_app (goodIn_of _ (by decide +kernel)) ggL_law_X5_left
set_option maxRecDepth 20000 in
theorem ggL_law_X6_left : GoodIn wsL_law wsX6_left := goodIn_r _ [560, 356, 504, 102, 66, 358, 359, 360, 5, 361, 108, 109, 110, 505, 506, 507, 508, 284, 285, 286, 287, 509, 510, 511, 512, 366, 367, 368, 369, 370, 371, 372, 373, 374, 375, 376, 377, 378, 379, 380, 381, 382, 383, 384, 385, 386, 387, 388, 393, 394, 395, 396, 830, 831, 832, 833, 834, 835, 836, 837, 838, 839, 840, 841, 842, 843, 844, 845] (by decide +kernel) (by decide +kernel)
set_option maxRecDepth 20000 in
theorem gL_law_X6_left : GoodIn wsL_law (wsV RL 93 RX6 yX6_left wsX6_left) := goodIn_app (goodIn_of _ (by decide +kernel)) ggL_law_X6_left
set_option maxRecDepth 20000 in
theorem ggL_law_X5_meet : GoodIn wsL_law wsX5_meet := goodIn_r _ [564, 78, 22, 529, 401, 402, 403, 2, 404, 21, 492, 493, 494, 495, 232, 20, 233, 234, 184, 235, 236, 185, 186, 187, 43, 44, 45, 46, 47, 496, 497, 498, 499, 310, 311, 312, 48, 313, 314, 315, 316, 317, 318, 319, 320, 321, 322, 323, 324, 325, 326, 327, 328, 329, 330, 331, 332, 333, 334, 335, 336, 337, 338, 339, 340, 341, 342, 343, 344, 820, 821, 822, 823, 824, 825, 826, 827, 828, 829, 850, 851, 852, 853, 854, 855, 856, 857, 858, 859, 860, 861] (by decide +kernel) (by decide +kernel)
set_option maxRecDepth 20000 in
theorem gL_law_X5_meet : GoodIn wsL_law (wsV RL 94 RX5 yX5_meet wsX5_meet) := goodIn_app (goodIn_of _ (by decide +kernel)) ggL_law_X5_meet
set_option maxRecDepth 20000 in
theorem ggL_law_X6_meet : GoodIn wsL_law wsX6_meet := goodIn_r _ [568, 102, 66, 534, 413, 414, 415, 5, 416, 108, 109, 110, 505, 506, 507, 508, 284, 285, 286, 287, 366, 367, 368, 369, 370, 371, 372, 373, 374, 375, 376, 377, 378, 379, 380, 381, 382, 383, 384, 385, 386, 387, 388, 830, 831, 832, 833, 834, 835, 836, 837, 838, 839, 840, 841, 842, 843, 844, 845] (by decide +kernel) (by decide +kernel)
set_option maxRecDepth 20000 in
theorem gL_law_X6_meet : GoodIn wsL_law (wsV RL 97 RX6 yX6_meet wsX6_meet) := goodIn_app (goodIn_of _ (by decide +kernel)) ggL_law_X6_meet
set_option maxRecDepth 20000 in
theorem ggL_law_X5_round : GoodIn wsL_law wsX5_round := goodIn_r _ [572, 21, 300, 22, 529, 492, 493, 494, 2, 495, 232, 20, 233, 234, 184, 235, 236, 185, 186, 187, 43, 44, 45, 46, 47, 496, 497, 498, 499, 310, 311, 312, 48, 313, 314, 315, 316, 317, 318, 319, 320, 321, 322, 323, 324, 325, 326, 327, 328, 329, 330, 331, 332, 333, 334, 335, 336, 337, 338, 339, 340, 341, 342, 343, 344, 573, 574, 575, 820, 821, 822, 823, 824, 825, 826, 827, 828, 829, 850, 851, 852, 853, 854, 855, 856, 857, 858, 859, 860, 861] (by decide +kernel) (by decide +kernel)
set_option maxRecDepth 20000 in
theorem gL_law_X5_round : GoodIn wsL_law (wsV RL 98 RX5 yX5_round wsX5_round) := goodIn_app (goodIn_of _ (by decide +kernel)) ggL_law_X5_round
set_option maxRecDepth 20000 in
theorem ggL_law_X6_round : GoodIn wsL_law wsX6_round := goodIn_r _ [579, 356, 66, 534, 358, 359, 360, 5, 361, 505, 506, 507, 508, 284, 285, 286, 287, 366, 367, 368, 369, 370, 371, 372, 373, 374, 375, 376, 377, 378, 379, 380, 381, 382, 383, 384, 385, 386, 387, 388, 830, 831, 832, 833, 834, 835, 836, 837, 838, 839, 840, 841, 842, 843, 844, 845] (by decide +kernel) (by decide +kernel)
set_option maxRecDepth 20000 in
theorem gL_law_X6_round : GoodIn wsL_law (wsV RL 101 RX6 yX6_round wsX6_round) := goodIn_app (goodIn_of _ (by decide +kernel)) ggL_law_X6_round
set_option maxRecDepth 20000 in
theorem ggL_law_X5_best : GoodIn wsL_law wsX5_best := goodIn_r _ [583, 78, 21, 22, 401, 402, 403, 2, 404, 405, 406, 407, 408, 489, 490, 491, 232, 20, 233, 234, 184, 235, 236, 185, 186, 187, 43, 44, 45, 46, 47, 496, 497, 498, 499, 310, 311, 312, 48, 313, 314, 315, 316, 317, 318, 319, 320, 321, 322, 323, 324, 325, 326, 327, 328, 329, 330, 331, 332, 333, 334, 335, 336, 337, 338, 339, 340, 341, 342, 343, 344, 437, 438, 439, 440, 441, 442, 443, 820, 821, 822, 823, 824, 825, 826, 827, 828, 829, 850, 851, 852, 853, 854, 855, 856, 857, 858, 859, 860, 861] (by decide +kernel) (by decide +kernel)
set_option maxRecDepth 20000 in
theorem gL_law_X5_best : GoodIn wsL_law (wsV RL 102 RX5 yX5_best wsX5_best) := goodIn_app (goodIn_of _ (by decide +kernel)) ggL_law_X5_best
set_option maxRecDepth 20000 in
theorem ggL_law_X6_best : GoodIn wsL_law wsX6_best := goodIn_r _ [587, 588, 102, 66, 413, 414, 415, 5, 416, 108, 109, 110, 417, 418, 419, 420, 505, 506, 507, 508, 284, 285, 286, 287, 509, 510, 511, 512, 366, 367, 368, 369, 370, 371, 372, 373, 374, 375, 376, 377, 378, 379, 380, 381, 382, 383, 384, 385, 386, 387, 388, 448, 449, 450, 830, 831, 832, 833, 834, 835, 836, 837, 838, 839, 840, 841, 842, 843, 844, 845] (by decide +kernel) (by decide +kernel)
set_option maxRecDepth 20000 in
theorem gL_law_X6_best : GoodIn wsL_law (wsV RL 106 RX6 yX6_best wsX6_best) := goodIn_app (goodIn_of _ (by decide +kernel)) ggL_law_X6_best
set_option maxRecDepth 20000 in
theorem ggL_law_X5_piece : GoodIn wsL_law wsX5_piece := goodIn_r _ [592, 21, 300, 78, 529, 489, 490, 2, 491, 437, 438, 439, 440, 441, 442, 443, 554, 20, 555, 556, 186, 44, 349, 350, 351, 235, 820, 821, 822, 823, 824, 825, 826, 827, 828, 829, 850, 851, 852, 853, 854, 855, 856, 857, 858, 859, 860, 861] (by decide +kernel) (by decide +kernel)
set_option maxRecDepth 20000 in
theorem gL_law_X5_piece : GoodIn wsL_law (wsV RL 107 RX5 yX5_piece wsX5_piece) := goodIn_app (goodIn_of _ (by decide +kernel)) ggL_law_X5_piece
set_option maxRecDepth 20000 in
theorem ggL_law_X6_piece : GoodIn wsL_law wsX6_piece := goodIn_r _ [596, 356, 102, 534, 66, 358, 359, 360, 5, 361, 108, 109, 110, 374, 375, 376, 393, 394, 395, 396, 448, 449, 450, 830, 831, 832, 833, 834, 835, 836, 837, 838, 839, 840, 841, 842, 843, 844, 845] (by decide +kernel) (by decide +kernel)
set_option maxRecDepth 20000 in
theorem gL_law_X6_piece : GoodIn wsL_law (wsV RL 110 RX6 yX6_piece wsX6_piece) := goodIn_app (goodIn_of _ (by decide +kernel)) ggL_law_X6_piece
set_option maxRecDepth 20000 in
theorem ggL_law_X5_walk : GoodIn wsL_law wsX5_walk := goodIn_r _ [600, 78, 405, 406, 407, 2, 408, 21, 489, 490, 491, 601, 602, 603, 604, 22, 24, 492, 493, 494, 495, 232, 20, 233, 234, 184, 235, 236, 185, 186, 187, 43, 44, 45, 46, 47, 496, 497, 498, 499, 310, 311, 312, 48, 313, 314, 315, 316, 317, 318, 319, 320, 321, 322, 323, 324, 325, 326, 327, 328, 329, 330, 331, 332, 333, 334, 335, 336, 337, 338, 339, 340, 341, 342, 343, 344, 605, 606, 607, 608, 437, 438, 439, 440, 441, 442, 443, 820, 821, 822, 823, 824, 825, 826, 827, 828, 829, 850, 851, 852, 853, 854, 855, 856, 857, 858, 859, 860, 861] (by decide +kernel) (by decide +kernel)
set_option maxRecDepth 20000 in
theorem gL_law_X5_walk : GoodIn wsL_law (wsV RL 111 RX5 yX5_walk wsX5_walk) := goodIn_app (goodIn_of _ (by decide +kernel)) ggL_law_X5_walk
set_option maxRecDepth 20000 in
theorem ggL_law_X6_walk : GoodIn wsL_law wsX6_walk := goodIn_r _ [612, 613, 102, 66, 72, 417, 418, 419, 5, 420, 108, 109, 110, 614, 615, 616, 617, 505, 506, 507, 508, 284, 285, 286, 287, 370, 371, 372, 373, 374, 375, 376, 381, 382, 383, 384, 385, 386, 387, 388, 366, 367, 368, 369, 377, 378, 379, 380, 448, 449, 450, 830, 831, 832, 833, 834, 835, 836, 837, 838, 839, 840, 841, 842, 843, 844, 845] (by decide +kernel) (by decide +kernel)
set_option maxRecDepth 20000 in
theorem gL_law_X6_walk : GoodIn wsL_law (wsV RL 114 RX6 yX6_walk wsX6_walk) := goodIn_app (goodIn_of _ (by decide +kernel)) ggL_law_X6_walk
set_option maxRecDepth 20000 in
theorem ggL_law_X5_fits : GoodIn wsL_law wsX5_fits := goodIn_r _ [621, 78, 13, 22, 21, 401, 402, 403, 2, 404, 79, 80, 81, 489, 490, 491, 82, 83, 84, 85, 86, 87, 120, 35, 121, 122, 92, 622, 623, 624, 625, 232, 20, 233, 234, 184, 235, 236, 185, 186, 187, 43, 44, 45, 46, 47, 626, 627, 628, 629, 630, 631, 632, 633, 310, 311, 312, 48, 313, 314, 315, 316, 317, 318, 319, 320, 321, 322, 323, 324, 325, 326, 327, 328, 329, 330, 331, 332, 333, 334, 335, 336, 337, 338, 339, 340, 341, 342, 343, 344, 93, 94, 95, 96, 820, 821, 822, 823, 824, 825, 826, 827, 828, 829, 867, 868, 869, 870, 850, 851, 852, 853, 854, 855, 856, 857, 858, 859, 860, 861] (by decide +kernel) (by decide +kernel)
set_option maxRecDepth 20000 in
theorem gL_law_X5_fits : GoodIn wsL_law (wsV RL 115 RX5 yX5_fits wsX5_fits) := goodIn_app (goodIn_of _ (by decide +kernel)) ggL_law_X5_fits
set_option maxRecDepth 20000 in
theorem ggL_law_X6_fits : GoodIn wsL_law wsX6_fits := goodIn_r _ [637, 638, 639, 102, 103, 66, 413, 414, 415, 5, 416, 108, 109, 110, 104, 105, 106, 107, 130, 131, 132, 133, 68, 111, 112, 113, 114, 115, 505, 506, 507, 508, 284, 285, 286, 287, 640, 641, 642, 643, 70, 366, 367, 368, 369, 370, 371, 372, 373, 374, 375, 376, 377, 378, 379, 380, 381, 382, 383, 384, 385, 386, 387, 388, 830, 831, 832, 833, 834, 835, 836, 837, 838, 839, 840, 841, 842, 843, 844, 845] (by decide +kernel) (by decide +kernel)
set_option maxRecDepth 20000 in
theorem gL_law_X6_fits : GoodIn wsL_law (wsV RL 118 RX6 yX6_fits wsX6_fits) := goodIn_app (goodIn_of _ (by decide +kernel)) ggL_law_X6_fits
set_option maxRecDepth 20000 in
theorem ggL_law_X5_axles : GoodIn wsL_law wsX5_axles := goodIn_r _ [647, 78, 405, 406, 407, 2, 408, 21, 425, 426, 427, 428, 489, 490, 491, 648, 649, 650, 651, 314, 20, 315, 316, 187, 46, 322, 323, 324, 45, 47, 43, 325, 326, 327, 328, 235, 652, 653, 654, 820, 821, 822, 823, 824, 825, 826, 827, 828, 829, 850, 851, 852, 853, 854, 855, 856, 857, 858, 859, 860, 861] (by decide +kernel) (by decide +kernel)
set_option maxRecDepth 20000 in
theorem gL_law_X5_axles : GoodIn wsL_law (wsV RL 119 RX5 yX5_axles wsX5_axles) := goodIn_app (goodIn_of _ (by decide +kernel)) ggL_law_X5_axles
set_option maxRecDepth 20000 in
theorem ggL_law_X6_axles : GoodIn wsL_law wsX6_axles := goodIn_r _ [658, 66, 659, 102, 417, 418, 419, 5, 420, 108, 109, 110, 374, 375, 376, 505, 506, 507, 508, 284, 285, 286, 287, 366, 367, 368, 369, 370, 371, 372, 373, 377, 378, 379, 380, 381, 382, 383, 384, 385, 386, 387, 388, 830, 831, 832, 833, 834, 835, 836, 837, 838, 839, 840, 841, 842, 843, 844, 845] (by decide +kernel) (by decide +kernel)
set_option maxRecDepth 20000 in
theorem gL_law_X6_axles : GoodIn wsL_law (wsV RL 122 RX6 yX6_axles wsX6_axles) := goodIn_app (goodIn_of _ (by decide +kernel)) ggL_law_X6_axles
