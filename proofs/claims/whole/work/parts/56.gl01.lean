/-! the words of the law's callees, 1 -/
set_option maxRecDepth 20000 in
theorem ggL_law_X5_put : GoodIn wsL_law wsX5_put := goodIn_r _ [400, 78, 21, 300, 29, 401, 402, 403, 2, 404, 405, 406, 407, 408, 301, 28, 302, 303, 304, 52, 305, 306, 307, 308, 309, 820, 821, 822, 823, 824, 825, 826, 827, 828, 829, 850, 851, 852, 853, 854, 855, 856, 857, 858, 859, 860, 861, 862, 863, 864] (by decide +kernel) (by decide +kernel)
set_option maxRecDepth 20000 in
theorem gL_law_X5_put : GoodIn wsL_law (wsV RL 49 RX5 yX5_put wsX5_put) := goodIn_app (goodIn_of _ (by decide +kernel)) ggL_law_X5_put
set_option maxRecDepth 20000 in
theorem ggL_law_X6_put : GoodIn wsL_law wsX6_put := goodIn_r _ [412, 102, 66, 356, 413, 414, 415, 5, 416, 108, 109, 110, 417, 418, 419, 420, 362, 363, 364, 365, 244, 284, 285, 286, 287, 830, 831, 832, 833, 834, 835, 836, 837, 838, 839, 840, 841, 842, 843, 844, 845] (by decide +kernel) (by decide +kernel)
set_option maxRecDepth 20000 in
theorem gL_law_X6_put : GoodIn wsL_law (wsV RL 53 RX6 yX6_put wsX6_put) := goodIn_app (goodIn_of _ (by decide +kernel)) ggL_law_X6_put
set_option maxRecDepth 20000 in
theorem ggL_law_X5_skip : GoodIn wsL_law wsX5_skip := goodIn_r _ [424, 78, 21, 29, 401, 402, 403, 2, 404, 425, 426, 427, 428, 301, 28, 302, 303, 304, 52, 305, 306, 307, 308, 309, 820, 821, 822, 823, 824, 825, 826, 827, 828, 829, 850, 851, 852, 853, 854, 855, 856, 857, 858, 859, 860, 861, 862, 863, 864] (by decide +kernel) (by decide +kernel)
set_option maxRecDepth 20000 in
theorem gL_law_X5_skip : GoodIn wsL_law (wsV RL 54 RX5 yX5_skip wsX5_skip) := goodIn_app (goodIn_of _ (by decide +kernel)) ggL_law_X5_skip
set_option maxRecDepth 20000 in
theorem ggL_law_X6_skip : GoodIn wsL_law wsX6_skip := goodIn_r _ [432, 66, 102, 413, 414, 415, 5, 416, 108, 109, 110, 362, 363, 364, 365, 244, 284, 285, 286, 287, 830, 831, 832, 833, 834, 835, 836, 837, 838, 839, 840, 841, 842, 843, 844, 845] (by decide +kernel) (by decide +kernel)
set_option maxRecDepth 20000 in
theorem gL_law_X6_skip : GoodIn wsL_law (wsV RL 57 RX6 yX6_skip wsX6_skip) := goodIn_app (goodIn_of _ (by decide +kernel)) ggL_law_X6_skip
set_option maxRecDepth 20000 in
theorem ggL_law_X5_forget : GoodIn wsL_law wsX5_forget := goodIn_r _ [436, 78, 21, 300, 29, 405, 406, 407, 2, 408, 437, 438, 439, 440, 441, 442, 443, 301, 28, 302, 303, 304, 52, 305, 306, 307, 308, 309, 820, 821, 822, 823, 824, 825, 826, 827, 828, 829, 850, 851, 852, 853, 854, 855, 856, 857, 858, 859, 860, 861, 862, 863, 864] (by decide +kernel) (by decide +kernel)
set_option maxRecDepth 20000 in
theorem gL_law_X5_forget : GoodIn wsL_law (wsV RL 58 RX5 yX5_forget wsX5_forget) := goodIn_app (goodIn_of _ (by decide +kernel)) ggL_law_X5_forget
set_option maxRecDepth 20000 in
theorem ggL_law_X6_forget : GoodIn wsL_law wsX6_forget := goodIn_r _ [447, 102, 66, 356, 417, 418, 419, 5, 420, 108, 109, 110, 362, 363, 364, 365, 244, 284, 285, 286, 287, 448, 449, 450, 830, 831, 832, 833, 834, 835, 836, 837, 838, 839, 840, 841, 842, 843, 844, 845] (by decide +kernel) (by decide +kernel)
set_option maxRecDepth 20000 in
theorem gL_law_X6_forget : GoodIn wsL_law (wsV RL 61 RX6 yX6_forget wsX6_forget) := goodIn_app (goodIn_of _ (by decide +kernel)) ggL_law_X6_forget
set_option maxRecDepth 20000 in
theorem ggL_law_X5_undo : GoodIn wsL_law wsX5_undo := goodIn_r _ [454, 29, 300, 21, 455, 28, 456, 457, 304, 305, 52, 820, 821, 822, 823, 824, 825, 826, 827, 828, 829, 862, 863, 864, 850, 851, 852, 853, 854, 855, 856, 857, 858, 859, 860, 861] (by decide +kernel) (by decide +kernel)
set_option maxRecDepth 20000 in
theorem gL_law_X5_undo : GoodIn wsL_law (wsV RL 62 RX5 yX5_undo wsX5_undo) := goodIn_app (goodIn_of _ (by decide +kernel)) ggL_law_X5_undo
set_option maxRecDepth 20000 in
theorem ggL_law_X6_undo : GoodIn wsL_law wsX6_undo := goodIn_r _ [461, 244, 356, 284, 285, 286, 5, 287, 66, 830, 831, 832, 833, 834, 835, 836, 837, 838, 839, 840, 841, 842, 843, 844, 845] (by decide +kernel) (by decide +kernel)
set_option maxRecDepth 20000 in
theorem gL_law_X6_undo : GoodIn wsL_law (wsV RL 65 RX6 yX6_undo wsX6_undo) := goodIn_app (goodIn_of _ (by decide +kernel)) ggL_law_X6_undo
set_option maxRecDepth 20000 in
theorem ggL_law_X5_pulpit : GoodIn wsL_law wsX5_pulpit := goodIn_r _ [465, 78, 21, 401, 402, 403, 2, 404, 314, 20, 315, 316, 187, 46, 322, 323, 324, 45, 47, 43, 325, 326, 327, 328, 235, 820, 821, 822, 823, 824, 825, 826, 827, 828, 829, 850, 851, 852, 853, 854, 855, 856, 857, 858, 859, 860, 861] (by decide +kernel) (by decide +kernel)
set_option maxRecDepth 20000 in
theorem gL_law_X5_pulpit : GoodIn wsL_law (wsV RL 66 RX5 yX5_pulpit wsX5_pulpit) := goodIn_app (goodIn_of _ (by decide +kernel)) ggL_law_X5_pulpit
set_option maxRecDepth 20000 in
theorem ggL_law_X6_pulpit : GoodIn wsL_law wsX6_pulpit := goodIn_r _ [469, 102, 66, 413, 414, 415, 5, 416, 108, 109, 110, 370, 371, 372, 373, 381, 382, 383, 384, 385, 386, 387, 388, 830, 831, 832, 833, 834, 835, 836, 837, 838, 839, 840, 841, 842, 843, 844, 845] (by decide +kernel) (by decide +kernel)
set_option maxRecDepth 20000 in
theorem gL_law_X6_pulpit : GoodIn wsL_law (wsV RL 69 RX6 yX6_pulpit wsX6_pulpit) := goodIn_app (goodIn_of _ (by decide +kernel)) ggL_law_X6_pulpit
set_option maxRecDepth 20000 in
theorem ggL_law_X5_stretch : GoodIn wsL_law wsX5_stretch := goodIn_r _ [473, 78, 21, 405, 406, 407, 2, 408, 474, 20, 475, 476, 187, 46, 820, 821, 822, 823, 824, 825, 826, 827, 828, 829, 850, 851, 852, 853, 854, 855, 856, 857, 858, 859, 860, 861] (by decide +kernel) (by decide +kernel)
set_option maxRecDepth 20000 in
theorem gL_law_X5_stretch : GoodIn wsL_law (wsV RL 70 RX5 yX5_stretch wsX5_stretch) := goodIn_app (goodIn_of _ (by decide +kernel)) ggL_law_X5_stretch
set_option maxRecDepth 20000 in
theorem ggL_law_X6_stretch : GoodIn wsL_law wsX6_stretch := goodIn_r _ [480, 102, 66, 417, 418, 419, 5, 420, 108, 109, 110, 481, 482, 483, 484, 830, 831, 832, 833, 834, 835, 836, 837, 838, 839, 840, 841, 842, 843, 844, 845] (by decide +kernel) (by decide +kernel)
set_option maxRecDepth 20000 in
theorem gL_law_X6_stretch : GoodIn wsL_law (wsV RL 73 RX6 yX6_stretch wsX6_stretch) := goodIn_app (goodIn_of _ (by decide +kernel)) ggL_law_X6_stretch
set_option maxRecDepth 20000 in
theorem ggL_law_X5_ahead : GoodIn wsL_law wsX5_ahead := goodIn_r _ [488, 78, 22, 401, 402, 403, 2, 404, 21, 489, 490, 491, 492, 493, 494, 495, 232, 20, 233, 234, 184, 235, 236, 185, 186, 187, 43, 44, 45, 46, 47, 496, 497, 498, 499, 310, 311, 312, 48, 313, 314, 315, 316, 317, 318, 319, 320, 321, 322, 323, 324, 325, 326, 327, 328, 329, 330, 331, 332, 333, 334, 335, 336, 337, 338, 339, 340, 341, 342, 343, 344, 820, 821, 822, 823, 824, 825, 826, 827, 828, 829, 850, 851, 852, 853, 854, 855, 856, 857, 858, 859, 860, 861] (by decide +kernel) (by decide +kernel)
set_option maxRecDepth 20000 in
theorem gL_law_X5_ahead : GoodIn wsL_law (wsV RL 74 RX5 yX5_ahead wsX5_ahead) := goodIn_app (goodIn_of _ (by decide +kernel)) ggL_law_X5_ahead
set_option maxRecDepth 20000 in
theorem ggL_law_X6_ahead : GoodIn wsL_law wsX6_ahead := goodIn_r _ [503, 504, 102, 66, 413, 414, 415, 5, 416, 108, 109, 110, 505, 506, 507, 508, 284, 285, 286, 287, 509, 510, 511, 512, 366, 367, 368, 369, 370, 371, 372, 373, 374, 375, 376, 377, 378, 379, 380, 381, 382, 383, 384, 385, 386, 387, 388, 830, 831, 832, 833, 834, 835, 836, 837, 838, 839, 840, 841, 842, 843, 844, 845] (by decide +kernel) (by decide +kernel)
set_option maxRecDepth 20000 in
theorem gL_law_X6_ahead : GoodIn wsL_law (wsV RL 77 RX6 yX6_ahead wsX6_ahead) := goodIn_app (goodIn_of _ (by decide +kernel)) ggL_law_X6_ahead
set_option maxRecDepth 20000 in
theorem ggL_law_X5_heard : GoodIn wsL_law wsX5_heard := goodIn_r _ [516, 78, 22, 405, 406, 407, 2, 408, 21, 489, 490, 491, 492, 493, 494, 495, 232, 20, 233, 234, 184, 235, 236, 185, 186, 187, 43, 44, 45, 46, 47, 496, 497, 498, 499, 310, 311, 312, 48, 313, 314, 315, 316, 317, 318, 319, 320, 321, 322, 323, 324, 325, 326, 327, 328, 329, 330, 331, 332, 333, 334, 335, 336, 337, 338, 339, 340, 341, 342, 343, 344, 820, 821, 822, 823, 824, 825, 826, 827, 828, 829, 850, 851, 852, 853, 854, 855, 856, 857, 858, 859, 860, 861] (by decide +kernel) (by decide +kernel)
set_option maxRecDepth 20000 in
theorem gL_law_X5_heard : GoodIn wsL_law (wsV RL 78 RX5 yX5_heard wsX5_heard) := goodIn_app (goodIn_of _ (by decide +kernel)) ggL_law_X5_heard
set_option maxRecDepth 20000 in
theorem ggL_law_X6_heard : GoodIn wsL_law wsX6_heard := goodIn_r _ [520, 504, 102, 66, 417, 418, 419, 5, 420, 108, 109, 110, 505, 506, 507, 508, 284, 285, 286, 287, 509, 510, 511, 512, 366, 367, 368, 369, 370, 371, 372, 373, 374, 375, 376, 377, 378, 379, 380, 381, 382, 383, 384, 385, 386, 387, 388, 830, 831, 832, 833, 834, 835, 836, 837, 838, 839, 840, 841, 842, 843, 844, 845] (by decide +kernel) (by decide +kernel)
set_option maxRecDepth 20000 in
theorem gL_law_X6_heard : GoodIn wsL_law (wsV RL 81 RX6 yX6_heard wsX6_heard) := goodIn_app (goodIn_of _ (by decide +kernel)) ggL_law_X6_heard
set_option maxRecDepth 20000 in
theorem ggL_law_X5_whole : GoodIn wsL_law wsX5_whole := goodIn_r _ [524, 78, 405, 406, 407, 2, 408, 21, 525, 526, 527, 528, 22, 529, 492, 493, 494, 495, 232, 20, 233, 234, 184, 235, 236, 185, 186, 187, 43, 44, 45, 46, 47, 496, 497, 498, 499, 310, 311, 312, 48, 313, 314, 315, 316, 317, 318, 319, 320, 321, 322, 323, 324, 325, 326, 327, 328, 329, 330, 331, 332, 333, 334, 335, 336, 337, 338, 339, 340, 341, 342, 343, 344, 345, 346, 347, 348, 349, 350, 351, 820, 821, 822, 823, 824, 825, 826, 827, 828, 829, 850, 851, 852, 853, 854, 855, 856, 857, 858, 859, 860, 861] (by decide +kernel) (by decide +kernel)
set_option maxRecDepth 20000 in
theorem gL_law_X5_whole : GoodIn wsL_law (wsV RL 82 RX5 yX5_whole wsX5_whole) := goodIn_app (goodIn_of _ (by decide +kernel)) ggL_law_X5_whole
set_option maxRecDepth 20000 in
theorem ggL_law_X6_whole : GoodIn wsL_law wsX6_whole := goodIn_r _ [533, 102, 534, 417, 418, 419, 5, 420, 66, 108, 109, 110, 505, 506, 507, 508, 284, 285, 286, 287, 389, 390, 391, 392, 393, 394, 395, 396, 374, 375, 376, 366, 367, 368, 369, 370, 371, 372, 373, 377, 378, 379, 380, 381, 382, 383, 384, 385, 386, 387, 388, 830, 831, 832, 833, 834, 835, 836, 837, 838, 839, 840, 841, 842, 843, 844, 845] (by decide +kernel) (by decide +kernel)
set_option maxRecDepth 20000 in
theorem gL_law_X6_whole : GoodIn wsL_law (wsV RL 85 RX6 yX6_whole wsX6_whole) := goodIn_app (goodIn_of _ (by decide +kernel)) ggL_law_X6_whole
