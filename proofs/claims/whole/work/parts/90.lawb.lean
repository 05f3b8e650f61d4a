set_option maxRecDepth 20000 in
theorem ggL_law_X8_init : GoodIn wsL_law wsX8_init := goodIn_r _ [8, 9, 10, 11, 12, 13, 14, 15, 16, 17, 18, 19, 20, 21, 22, 23, 24, 25, 26, 27, 28, 29, 30, 31, 32, 33, 34, 35, 36, 37, 38, 39, 40, 41, 42, 43, 44, 45, 46, 47, 48, 49, 50, 51, 52, 53, 54, 55, 56, 57, 58, 59, 60, 61, 62, 63, 64, 65, 66, 67, 68, 69, 70, 71, 72, 73, 74, 75, 76, 77, 78, 79, 80, 81, 82, 83, 84, 85, 86, 87, 88, 89, 90, 91, 92, 93, 94, 95, 96, 97, 98, 99, 100, 101, 102, 103, 104, 105, 106, 107, 108, 109, 110, 111, 112, 113, 114, 115, 116, 117, 118, 119, 120, 121, 122, 123, 124, 125, 126, 809, 810, 811, 812, 775, 776, 777, 778, 779, 780, 781, 782, 783, 784, 785, 813, 814, 815, 816, 817, 818, 819, 820, 821, 822, 823, 824, 825, 826, 827, 828, 829, 830, 831, 832, 833, 834, 835, 836, 837, 838] (by decide +kernel) (by decide +kernel)
set_option maxRecDepth 20000 in
theorem gL_law_X8_init : GoodIn wsL_law (wsX8_init) := ggL_law_X8_init
set_option maxRecDepth 20000 in
theorem ggL_law_X9_init : GoodIn wsL_law wsX9_init := goodIn_r _ [129, 130, 10, 11, 58, 131, 132, 133, 134, 135, 136, 137, 138, 139, 140, 141, 142, 143, 144, 5, 145, 786, 787, 788, 789, 790, 791, 792, 793, 794, 795, 796, 797, 798, 799, 800, 801, 802, 803, 804, 805, 806, 807, 808] (by decide +kernel) (by decide +kernel)
set_option maxRecDepth 20000 in
theorem gL_law_X9_init : GoodIn wsL_law (wsX9_init) := ggL_law_X9_init
set_option maxRecDepth 20000 in
theorem ggL_law_X8_write : GoodIn wsL_law wsX8_write := goodIn_r _ [149, 15, 150, 151, 2, 152, 153, 154, 155, 14, 156, 49, 157, 158, 93, 94, 48, 95, 59, 775, 776, 777, 778, 779, 780, 781, 782, 783, 784, 785, 809, 810, 811, 812, 838] (by decide +kernel) (by decide +kernel)
set_option maxRecDepth 20000 in
theorem gL_law_X8_write : GoodIn wsL_law (wsV RL 13 RX8 yX8_write wsX8_write) := goodIn_app (goodIn_of _ (by decide +kernel)) ggL_law_X8_write
set_option maxRecDepth 20000 in
theorem ggL_law_X9_write : GoodIn wsL_law wsX9_write := goodIn_r _ [162, 163, 164, 165, 139, 166, 167, 5, 168, 786, 787, 788, 789, 790, 791, 792, 793, 794, 795, 796, 797, 798, 799, 800, 801, 802, 803, 804, 805, 806, 807, 808] (by decide +kernel) (by decide +kernel)
set_option maxRecDepth 20000 in
theorem gL_law_X9_write : GoodIn wsL_law (wsV RL 17 RX9 yX9_write wsX9_write) := goodIn_app (goodIn_of _ (by decide +kernel)) ggL_law_X9_write
set_option maxRecDepth 20000 in
theorem ggL_law_X8_erase : GoodIn wsL_law wsX8_erase := goodIn_r _ [172, 15, 173, 174, 175, 14, 176, 157, 775, 776, 777, 778, 779, 780, 781, 782, 783, 784, 785, 809, 810, 811, 812] (by decide +kernel) (by decide +kernel)
set_option maxRecDepth 20000 in
theorem gL_law_X8_erase : GoodIn wsL_law (wsV RL 18 RX8 yX8_erase wsX8_erase) := goodIn_app (goodIn_of _ (by decide +kernel)) ggL_law_X8_erase
set_option maxRecDepth 20000 in
theorem ggL_law_X9_erase : GoodIn wsL_law wsX9_erase := goodIn_r _ [180, 163, 165, 786, 787, 788, 789, 790, 791, 792, 793, 794, 795, 796, 797, 798, 799, 800, 801, 802, 803, 804, 805, 806, 807, 808] (by decide +kernel) (by decide +kernel)
set_option maxRecDepth 20000 in
theorem gL_law_X9_erase : GoodIn wsL_law (wsV RL 22 RX9 yX9_erase wsX9_erase) := goodIn_app (goodIn_of _ (by decide +kernel)) ggL_law_X9_erase
set_option maxRecDepth 20000 in
theorem ggL_law_X8_fault : GoodIn wsL_law wsX8_fault := goodIn_r _ [184, 19, 23, 185, 186, 187, 18, 188, 65, 189, 190, 66, 191, 192, 193, 22, 194, 80, 81, 86, 87, 72, 73, 74, 195, 196, 197, 48, 198, 59, 199, 200, 201, 202, 203, 204, 205, 14, 206, 207, 208, 209, 210, 211, 212, 157, 49, 213, 214, 56, 215, 216, 217, 218, 219, 220, 221, 222, 223, 224, 225, 226, 227, 228, 229, 230, 231, 232, 233, 234, 235, 236, 237, 238, 239, 240, 241, 242, 243, 244, 245, 246, 247, 248, 249, 250, 251, 252, 253, 254, 255, 256, 257, 258, 259, 260, 261, 262, 263, 264, 265, 266, 267, 268, 269, 270, 271, 272, 273, 274, 275, 276, 277, 278, 279, 280, 281, 282, 283, 284, 285, 286, 287, 288, 289, 290, 291, 292, 293, 151, 2, 152, 294, 77, 78, 79, 82, 83, 84, 85, 88, 89, 90, 91, 92, 93, 94, 95, 295, 296, 297, 298, 299, 300, 301, 302, 303, 304, 305, 306, 307, 308, 309, 310, 311, 312, 313, 314, 315, 316, 317, 775, 776, 777, 778, 779, 780, 781, 782, 783, 784, 785, 813, 814, 815, 816, 809, 810, 811, 812, 817, 818, 819, 820, 821, 822, 823, 838] (by decide +kernel) (by decide +kernel)
set_option maxRecDepth 20000 in
theorem gL_law_X8_fault : GoodIn wsL_law (wsV RL 23 RX8 yX8_fault wsX8_fault) := goodIn_app (goodIn_of _ (by decide +kernel)) ggL_law_X8_fault
set_option maxRecDepth 20000 in
theorem ggL_law_X9_fault : GoodIn wsL_law wsX9_fault := goodIn_r _ [321, 163, 322, 323, 324, 325, 326, 5, 327, 133, 132, 328, 329, 330, 331, 332, 333, 334, 335, 165, 139, 336, 337, 338, 339, 340, 341, 342, 343, 344, 166, 167, 168, 345, 346, 347, 348, 349, 350, 351, 352, 353, 354, 355, 356, 357, 358, 359, 360, 361, 362, 363, 364, 365, 366, 367, 368, 143, 144, 145, 786, 787, 788, 789, 790, 791, 792, 793, 794, 795, 796, 797, 798, 799, 800, 801, 802, 803, 804, 805, 806, 807, 808] (by decide +kernel) (by decide +kernel)
set_option maxRecDepth 20000 in
theorem gL_law_X9_fault : GoodIn wsL_law (wsV RL 26 RX9 yX9_fault wsX9_fault) := goodIn_app (goodIn_of _ (by decide +kernel)) ggL_law_X9_fault
set_option maxRecDepth 20000 in
theorem ggL_law_X8_road : GoodIn wsL_law wsX8_road := goodIn_r _ [372, 19, 23, 24, 15, 34, 30, 373, 185, 186, 187, 18, 188, 65, 189, 190, 66, 191, 192, 193, 22, 194, 80, 81, 86, 87, 72, 73, 74, 195, 196, 197, 48, 198, 59, 199, 200, 201, 202, 203, 204, 205, 14, 206, 207, 208, 209, 210, 211, 212, 157, 49, 213, 214, 56, 215, 216, 217, 218, 219, 220, 221, 222, 223, 224, 225, 226, 227, 228, 229, 230, 231, 232, 233, 234, 235, 236, 237, 238, 239, 240, 241, 242, 243, 244, 245, 246, 247, 248, 249, 250, 251, 252, 253, 254, 255, 256, 257, 258, 259, 260, 261, 262, 263, 264, 265, 266, 267, 268, 269, 270, 271, 272, 273, 274, 275, 276, 277, 278, 279, 280, 281, 282, 283, 284, 285, 286, 287, 288, 289, 290, 291, 292, 293, 151, 2, 152, 294, 77, 78, 79, 82, 83, 84, 85, 88, 89, 90, 91, 92, 93, 94, 95, 295, 296, 297, 298, 299, 300, 301, 302, 303, 304, 305, 306, 307, 308, 309, 310, 311, 312, 313, 314, 315, 316, 317, 374, 173, 174, 175, 176, 775, 776, 777, 778, 779, 780, 781, 782, 783, 784, 785, 813, 814, 815, 816, 828, 829, 830, 831, 824, 825, 826, 827, 809, 810, 811, 812, 817, 818, 819, 820, 821, 822, 823, 838] (by decide +kernel) (by decide +kernel)
set_option maxRecDepth 20000 in
theorem gL_law_X8_road : GoodIn wsL_law (wsV RL 27 RX8 yX8_road wsX8_road) := goodIn_app (goodIn_of _ (by decide +kernel)) ggL_law_X8_road
set_option maxRecDepth 20000 in
theorem ggL_law_X9_road : GoodIn wsL_law wsX9_road := goodIn_r _ [378, 163, 322, 131, 133, 132, 165, 379, 380, 137, 324, 325, 326, 5, 327, 328, 329, 330, 331, 332, 333, 334, 335, 139, 336, 337, 338, 339, 340, 341, 342, 343, 344, 166, 167, 168, 345, 346, 347, 348, 349, 350, 351, 352, 353, 354, 355, 356, 357, 358, 359, 360, 361, 362, 363, 364, 323, 365, 366, 367, 368, 143, 144, 145, 786, 787, 788, 789, 790, 791, 792, 793, 794, 795, 796, 797, 798, 799, 800, 801, 802, 803, 804, 805, 806, 807, 808] (by decide +kernel) (by decide +kernel)
set_option maxRecDepth 20000 in
theorem gL_law_X9_road : GoodIn wsL_law (wsV RL 30 RX9 yX9_road wsX9_road) := goodIn_app (goodIn_of _ (by decide +kernel)) ggL_law_X9_road
set_option maxRecDepth 20000 in
theorem ggL_law_X8_walker : GoodIn wsL_law wsX8_walker := goodIn_r _ [384, 24, 385, 386, 387, 22, 388, 86, 151, 2, 152, 389, 200, 201, 48, 202, 59, 390, 391, 392, 393, 87, 394, 395, 396, 397, 81, 398, 214, 56, 215, 399, 400, 401, 402, 80, 73, 74, 403, 404, 405, 406, 407, 72, 408, 775, 776, 777, 778, 779, 780, 781, 782, 783, 784, 785, 817, 818, 819, 820, 821, 822, 823, 838] (by decide +kernel) (by decide +kernel)
set_option maxRecDepth 20000 in
theorem gL_law_X8_walker : GoodIn wsL_law (wsV RL 31 RX8 yX8_walker wsX8_walker) := goodIn_app (goodIn_of _ (by decide +kernel)) ggL_law_X8_walker
set_option maxRecDepth 20000 in
theorem ggL_law_X9_walker : GoodIn wsL_law wsX9_walker := goodIn_r _ [412, 163, 131, 413, 414, 415, 5, 416, 166, 167, 168, 417, 418, 419, 420, 421, 422, 423, 424, 425, 426, 427, 428, 429, 430, 431, 432, 786, 787, 788, 789, 790, 791, 792, 793, 794, 795, 796, 797, 798, 799, 800, 801, 802, 803, 804, 805, 806, 807, 808] (by decide +kernel) (by decide +kernel)
set_option maxRecDepth 20000 in
theorem gL_law_X9_walker : GoodIn wsL_law (wsV RL 35 RX9 yX9_walker wsX9_walker) := goodIn_app (goodIn_of _ (by decide +kernel)) ggL_law_X9_walker
set_option maxRecDepth 20000 in
theorem ggL_law_X8_as : GoodIn wsL_law wsX8_as := goodIn_r _ [436, 24, 385, 386, 387, 22, 388, 86, 151, 2, 152, 150, 389, 200, 201, 48, 202, 59, 437, 438, 439, 440, 405, 406, 407, 72, 80, 403, 775, 776, 777, 778, 779, 780, 781, 782, 783, 784, 785, 817, 818, 819, 820, 821, 822, 823, 838] (by decide +kernel) (by decide +kernel)
set_option maxRecDepth 20000 in
theorem gL_law_X8_as : GoodIn wsL_law (wsV RL 36 RX8 yX8_as wsX8_as) := goodIn_app (goodIn_of _ (by decide +kernel)) ggL_law_X8_as
set_option maxRecDepth 20000 in
theorem ggL_law_X9_as : GoodIn wsL_law wsX9_as := goodIn_r _ [444, 163, 445, 131, 413, 414, 415, 5, 416, 166, 167, 168, 425, 426, 427, 428, 786, 787, 788, 789, 790, 791, 792, 793, 794, 795, 796, 797, 798, 799, 800, 801, 802, 803, 804, 805, 806, 807, 808] (by decide +kernel) (by decide +kernel)
set_option maxRecDepth 20000 in
theorem gL_law_X9_as : GoodIn wsL_law (wsV RL 39 RX9 yX9_as wsX9_as) := goodIn_app (goodIn_of _ (by decide +kernel)) ggL_law_X9_as
set_option maxRecDepth 20000 in
theorem ggL_law_X8_step : GoodIn wsL_law wsX8_step := goodIn_r _ [449, 24, 150, 151, 2, 152, 389, 200, 201, 48, 202, 59, 775, 776, 777, 778, 779, 780, 781, 782, 783, 784, 785, 817, 818, 819, 820, 821, 822, 823, 838] (by decide +kernel) (by decide +kernel)
set_option maxRecDepth 20000 in
theorem gL_law_X8_step : GoodIn wsL_law (wsV RL 40 RX8 yX8_step wsX8_step) := goodIn_app (goodIn_of _ (by decide +kernel)) ggL_law_X8_step
set_option maxRecDepth 20000 in
theorem ggL_law_X9_step : GoodIn wsL_law wsX9_step := goodIn_r _ [453, 163, 131, 166, 167, 5, 168, 786, 787, 788, 789, 790, 791, 792, 793, 794, 795, 796, 797, 798, 799, 800, 801, 802, 803, 804, 805, 806, 807, 808] (by decide +kernel) (by decide +kernel)
set_option maxRecDepth 20000 in
theorem gL_law_X9_step : GoodIn wsL_law (wsV RL 43 RX9 yX9_step wsX9_step) := goodIn_app (goodIn_of _ (by decide +kernel)) ggL_law_X9_step
set_option maxRecDepth 20000 in
theorem ggL_law_X8_walks : GoodIn wsL_law wsX8_walks := goodIn_r _ [457, 24, 30, 385, 386, 387, 22, 388, 86, 151, 2, 152, 150, 390, 391, 392, 393, 87, 458, 459, 460, 29, 461, 462, 101, 102, 103, 463, 464, 465, 48, 466, 59, 467, 93, 94, 95, 468, 469, 470, 471, 775, 776, 777, 778, 779, 780, 781, 782, 783, 784, 785, 817, 818, 819, 820, 821, 822, 823, 824, 825, 826, 827, 838] (by decide +kernel) (by decide +kernel)
set_option maxRecDepth 20000 in
theorem gL_law_X8_walks : GoodIn wsL_law (wsV RL 44 RX8 yX8_walks wsX8_walks) := goodIn_app (goodIn_of _ (by decide +kernel)) ggL_law_X8_walks
set_option maxRecDepth 20000 in
theorem ggL_law_X9_walks : GoodIn wsL_law wsX9_walks := goodIn_r _ [475, 163, 131, 413, 414, 415, 5, 416, 166, 167, 168, 476, 477, 478, 479, 380, 134, 786, 787, 788, 789, 790, 791, 792, 793, 794, 795, 796, 797, 798, 799, 800, 801, 802, 803, 804, 805, 806, 807, 808] (by decide +kernel) (by decide +kernel)
set_option maxRecDepth 20000 in
theorem gL_law_X9_walks : GoodIn wsL_law (wsV RL 47 RX9 yX9_walks wsX9_walks) := goodIn_app (goodIn_of _ (by decide +kernel)) ggL_law_X9_walks
set_option maxRecDepth 20000 in
theorem ggL_law_X8_flatten : GoodIn wsL_law wsX8_flatten := goodIn_r _ [483, 24, 30, 150, 151, 2, 152, 389, 200, 201, 48, 202, 59, 458, 459, 460, 29, 461, 462, 101, 102, 103, 463, 464, 465, 466, 467, 93, 94, 95, 484, 775, 776, 777, 778, 779, 780, 781, 782, 783, 784, 785, 817, 818, 819, 820, 821, 822, 823, 838, 824, 825, 826, 827] (by decide +kernel) (by decide +kernel)
set_option maxRecDepth 20000 in
theorem gL_law_X8_flatten : GoodIn wsL_law (wsV RL 48 RX8 yX8_flatten wsX8_flatten) := goodIn_app (goodIn_of _ (by decide +kernel)) ggL_law_X8_flatten
set_option maxRecDepth 20000 in
theorem ggL_law_X9_flatten : GoodIn wsL_law wsX9_flatten := goodIn_r _ [488, 163, 131, 489, 166, 167, 5, 168, 476, 477, 478, 479, 380, 134, 786, 787, 788, 789, 790, 791, 792, 793, 794, 795, 796, 797, 798, 799, 800, 801, 802, 803, 804, 805, 806, 807, 808] (by decide +kernel) (by decide +kernel)
set_option maxRecDepth 20000 in
theorem gL_law_X9_flatten : GoodIn wsL_law (wsV RL 51 RX9 yX9_flatten wsX9_flatten) := goodIn_app (goodIn_of _ (by decide +kernel)) ggL_law_X9_flatten
set_option maxRecDepth 20000 in
theorem ggL_law_X8_mile : GoodIn wsL_law wsX8_mile := goodIn_r _ [493, 24, 30, 150, 151, 2, 152, 458, 459, 460, 29, 461, 462, 101, 102, 103, 463, 464, 465, 48, 466, 59, 467, 93, 94, 95, 775, 776, 777, 778, 779, 780, 781, 782, 783, 784, 785, 817, 818, 819, 820, 821, 822, 823, 824, 825, 826, 827, 838] (by decide +kernel) (by decide +kernel)
set_option maxRecDepth 20000 in
theorem gL_law_X8_mile : GoodIn wsL_law (wsV RL 52 RX8 yX8_mile wsX8_mile) := goodIn_app (goodIn_of _ (by decide +kernel)) ggL_law_X8_mile
set_option maxRecDepth 20000 in
theorem ggL_law_X9_mile : GoodIn wsL_law wsX9_mile := goodIn_r _ [497, 163, 498, 131, 166, 167, 5, 168, 476, 477, 478, 479, 380, 134, 786, 787, 788, 789, 790, 791, 792, 793, 794, 795, 796, 797, 798, 799, 800, 801, 802, 803, 804, 805, 806, 807, 808] (by decide +kernel) (by decide +kernel)
set_option maxRecDepth 20000 in
theorem gL_law_X9_mile : GoodIn wsL_law (wsV RL 55 RX9 yX9_mile wsX9_mile) := goodIn_app (goodIn_of _ (by decide +kernel)) ggL_law_X9_mile
set_option maxRecDepth 20000 in
theorem ggL_law_X8_undo : GoodIn wsL_law wsX8_undo := goodIn_r _ [502, 30, 24, 503, 504, 505, 29, 506, 462, 101, 103, 102, 507, 200, 201, 48, 202, 59, 508, 469, 470, 22, 471, 87, 467, 93, 94, 95, 775, 776, 777, 778, 779, 780, 781, 782, 783, 784, 785, 824, 825, 826, 827, 817, 818, 819, 820, 821, 822, 823, 838] (by decide +kernel) (by decide +kernel)
set_option maxRecDepth 20000 in
theorem gL_law_X8_undo : GoodIn wsL_law (wsV RL 56 RX8 yX8_undo wsX8_undo) := goodIn_app (goodIn_of _ (by decide +kernel)) ggL_law_X8_undo
set_option maxRecDepth 20000 in
theorem ggL_law_X9_undo : GoodIn wsL_law wsX9_undo := goodIn_r _ [512, 163, 380, 131, 134, 786, 787, 788, 789, 790, 791, 792, 793, 794, 795, 796, 797, 798, 799, 800, 801, 802, 803, 804, 805, 806, 807, 808] (by decide +kernel) (by decide +kernel)
set_option maxRecDepth 20000 in
theorem gL_law_X9_undo : GoodIn wsL_law (wsV RL 59 RX9 yX9_undo wsX9_undo) := goodIn_app (goodIn_of _ (by decide +kernel)) ggL_law_X9_undo
set_option maxRecDepth 20000 in
theorem ggL_law_X8_keep : GoodIn wsL_law wsX8_keep := goodIn_r _ [516, 24, 373, 150, 151, 2, 152, 517, 518, 519, 520, 25, 26, 374, 192, 193, 22, 194, 80, 81, 86, 87, 72, 73, 74, 195, 196, 197, 48, 198, 59, 199, 200, 201, 202, 521, 522, 523, 524, 525, 526, 527, 775, 776, 777, 778, 779, 780, 781, 782, 783, 784, 785, 817, 818, 819, 820, 821, 822, 823, 838] (by decide +kernel) (by decide +kernel)
set_option maxRecDepth 20000 in
theorem gL_law_X8_keep : GoodIn wsL_law (wsV RL 60 RX8 yX8_keep wsX8_keep) := goodIn_app (goodIn_of _ (by decide +kernel)) ggL_law_X8_keep
set_option maxRecDepth 20000 in
theorem ggL_law_X9_keep : GoodIn wsL_law wsX9_keep := goodIn_r _ [531, 163, 135, 131, 137, 166, 167, 5, 168, 532, 533, 534, 786, 787, 788, 789, 790, 791, 792, 793, 794, 795, 796, 797, 798, 799, 800, 801, 802, 803, 804, 805, 806, 807, 808] (by decide +kernel) (by decide +kernel)
set_option maxRecDepth 20000 in
theorem gL_law_X9_keep : GoodIn wsL_law (wsV RL 63 RX9 yX9_keep wsX9_keep) := goodIn_app (goodIn_of _ (by decide +kernel)) ggL_law_X9_keep
