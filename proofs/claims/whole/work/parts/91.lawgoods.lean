set_option maxRecDepth 20000 in
theorem ggL_law_X5_init : GoodIn wsL_law wsX5_init := goodIn_r _ [8, 9, 10, 11, 12, 13, 14, 15, 16, 17, 18, 19, 20, 21, 22, 23, 24, 25, 26, 27, 28, 29, 30, 31, 32, 33, 34, 35, 36, 37, 38, 39, 40, 41, 42, 43, 44, 45, 46, 47, 48, 49, 50, 51, 52, 53, 54, 55, 56, 57, 58, 59, 60, 61, 62, 63, 64, 65, 66, 67, 68, 69, 70, 71, 72, 73, 74, 75, 76, 77, 78, 79, 80, 81, 82, 83, 84, 85, 86, 87, 88, 89, 90, 91, 92, 93, 94, 95, 96, 97, 98, 99, 100, 101, 102, 103, 104, 105, 106, 107, 108, 109, 110, 111, 112, 113, 114, 115, 116, 117, 118, 119, 120, 121, 122, 123, 124, 125, 126, 127, 128, 129, 130, 131, 132, 133, 134, 135, 136, 137, 138, 139, 140, 141, 142, 143, 144, 145, 146, 147, 148, 149, 150, 151, 152, 153, 154, 155, 156, 157, 158, 159, 160, 161, 162, 163, 164, 165, 166, 167, 168, 169, 170, 171, 172, 173, 2, 174, 175, 176, 177, 178, 179, 180, 181, 182, 183, 184, 786, 787, 788, 754, 755, 756, 757, 758, 759, 760, 761, 762, 789, 790, 791, 792, 793, 794, 795, 796, 797, 798, 799, 800, 801, 802, 803, 804, 805, 806, 807, 808, 809, 810, 811, 812, 813, 814, 815, 816, 817, 818, 819, 820, 821, 822] (by decide +kernel) (by decide +kernel)
set_option maxRecDepth 20000 in
theorem gL_law_X5_init : GoodIn wsL_law (wsX5_init) := ggL_law_X5_init
set_option maxRecDepth 20000 in
theorem ggL_law_X6_init : GoodIn wsL_law wsX6_init := goodIn_r _ [187, 188, 10, 11, 36, 189, 190, 191, 192, 193, 194, 195, 196, 197, 198, 199, 200, 201, 202, 203, 204, 5, 205, 206, 207, 208, 209, 210, 211, 212, 213, 214, 215, 216, 217, 218, 219, 220, 221, 222, 223, 763, 764, 765, 766, 767, 768, 769, 770, 771, 772, 773, 774, 775, 776, 777, 778, 779, 780, 781, 782, 783, 784, 785] (by decide +kernel) (by decide +kernel)
set_option maxRecDepth 20000 in
theorem gL_law_X6_init : GoodIn wsL_law (wsX6_init) := ggL_law_X6_init
set_option maxRecDepth 20000 in
theorem ggL_law_X5_write : GoodIn wsL_law wsX5_write := goodIn_r _ [227, 15, 138, 14, 139, 140, 39, 37, 754, 755, 756, 757, 758, 759, 760, 761, 762, 786, 787, 788] (by decide +kernel) (by decide +kernel)
set_option maxRecDepth 20000 in
theorem gL_law_X5_write : GoodIn wsL_law (wsV RL 13 RX5 yX5_write wsX5_write) := goodIn_app (goodIn_of _ (by decide +kernel)) ggL_law_X5_write
set_option maxRecDepth 20000 in
theorem ggL_law_X6_write : GoodIn wsL_law wsX6_write := goodIn_r _ [231, 232, 189, 763, 764, 765, 766, 767, 768, 769, 770, 771, 772, 773, 774, 775, 776, 777, 778, 779, 780, 781, 782, 783, 784, 785] (by decide +kernel) (by decide +kernel)
set_option maxRecDepth 20000 in
theorem gL_law_X6_write : GoodIn wsL_law (wsV RL 17 RX6 yX6_write wsX6_write) := goodIn_app (goodIn_of _ (by decide +kernel)) ggL_law_X6_write
set_option maxRecDepth 20000 in
theorem ggL_law_X5_wipe : GoodIn wsL_law wsX5_wipe := goodIn_r _ [236, 15, 182, 14, 183, 184, 39, 754, 755, 756, 757, 758, 759, 760, 761, 762, 786, 787, 788] (by decide +kernel) (by decide +kernel)
set_option maxRecDepth 20000 in
theorem gL_law_X5_wipe : GoodIn wsL_law (wsV RL 18 RX5 yX5_wipe wsX5_wipe) := goodIn_app (goodIn_of _ (by decide +kernel)) ggL_law_X5_wipe
set_option maxRecDepth 20000 in
theorem ggL_law_X6_wipe : GoodIn wsL_law wsX6_wipe := goodIn_r _ [240, 232, 763, 764, 765, 766, 767, 768, 769, 770, 771, 772, 773, 774, 775, 776, 777, 778, 779, 780, 781, 782, 783, 784, 785] (by decide +kernel) (by decide +kernel)
set_option maxRecDepth 20000 in
theorem gL_law_X6_wipe : GoodIn wsL_law (wsV RL 22 RX6 yX6_wipe wsX6_wipe) := goodIn_app (goodIn_of _ (by decide +kernel)) ggL_law_X6_wipe
set_option maxRecDepth 20000 in
theorem ggL_law_X5_fault : GoodIn wsL_law wsX5_fault := goodIn_r _ [244, 15, 20, 141, 14, 142, 143, 39, 37, 144, 18, 145, 146, 43, 47, 49, 52, 147, 148, 149, 150, 151, 152, 153, 154, 38, 155, 156, 157, 158, 159, 160, 161, 44, 45, 46, 162, 163, 164, 48, 165, 166, 167, 50, 51, 168, 169, 170, 754, 755, 756, 757, 758, 759, 760, 761, 762, 786, 787, 788, 789, 790, 791, 792, 793, 794, 795, 796, 797, 798] (by decide +kernel) (by decide +kernel)
set_option maxRecDepth 20000 in
theorem gL_law_X5_fault : GoodIn wsL_law (wsV RL 23 RX5 yX5_fault wsX5_fault) := goodIn_app (goodIn_of _ (by decide +kernel)) ggL_law_X5_fault
set_option maxRecDepth 20000 in
theorem ggL_law_X6_fault : GoodIn wsL_law wsX6_fault := goodIn_r _ [248, 249, 250, 251, 5, 252, 232, 189, 253, 202, 203, 204, 205, 206, 201, 207, 200, 254, 255, 256, 257, 258, 259, 260, 261, 262, 263, 264, 265, 266, 267, 268, 269, 270, 271, 272, 273, 274, 275, 276, 277, 208, 209, 210, 211, 197, 278, 279, 280, 281, 198, 282, 283, 284, 285, 199, 212, 213, 214, 215, 286, 287, 288, 289, 290, 291, 292, 293, 294, 295, 763, 764, 765, 766, 767, 768, 769, 770, 771, 772, 773, 774, 775, 776, 777, 778, 779, 780, 781, 782, 783, 784, 785] (by decide +kernel) (by decide +kernel)
set_option maxRecDepth 20000 in
theorem gL_law_X6_fault : GoodIn wsL_law (wsV RL 26 RX6 yX6_fault wsX6_fault) := goodIn_app (goodIn_of _ (by decide +kernel)) ggL_law_X6_fault
set_option maxRecDepth 20000 in
theorem ggL_law_X5_lay : GoodIn wsL_law wsX5_lay := goodIn_r _ [299, 15, 20, 19, 141, 14, 142, 143, 39, 37, 144, 18, 145, 146, 43, 47, 49, 52, 147, 148, 149, 150, 151, 152, 153, 154, 38, 155, 156, 157, 158, 159, 160, 161, 44, 45, 46, 162, 163, 164, 48, 165, 166, 167, 50, 51, 168, 169, 170, 300, 301, 302, 303, 304, 305, 306, 171, 172, 173, 2, 174, 27, 24, 175, 26, 176, 177, 56, 178, 57, 58, 59, 60, 61, 62, 63, 64, 68, 179, 67, 180, 181, 72, 73, 74, 754, 755, 756, 757, 758, 759, 760, 761, 762, 789, 790, 791, 792, 793, 794, 795, 796, 797, 798, 786, 787, 788, 799, 800, 801, 802, 803, 804, 805, 806, 807, 808, 818, 819, 820, 821, 822] (by decide +kernel) (by decide +kernel)
set_option maxRecDepth 20000 in
theorem gL_law_X5_lay : GoodIn wsL_law (wsV RL 27 RX5 yX5_lay wsX5_lay) := goodIn_app (goodIn_of _ (by decide +kernel)) ggL_law_X5_lay
set_option maxRecDepth 20000 in
theorem ggL_law_X6_lay : GoodIn wsL_law wsX6_lay := goodIn_r _ [310, 206, 207, 220, 249, 250, 251, 5, 252, 232, 189, 253, 202, 203, 204, 205, 201, 200, 254, 255, 256, 257, 258, 259, 260, 261, 262, 263, 264, 265, 266, 267, 268, 269, 270, 271, 272, 273, 274, 275, 276, 277, 208, 209, 210, 211, 197, 278, 279, 280, 281, 198, 282, 283, 284, 285, 199, 212, 213, 214, 215, 286, 287, 288, 289, 290, 291, 292, 293, 294, 295, 311, 312, 313, 314, 216, 217, 218, 219, 221, 222, 194, 190, 191, 192, 193, 223, 763, 764, 765, 766, 767, 768, 769, 770, 771, 772, 773, 774, 775, 776, 777, 778, 779, 780, 781, 782, 783, 784, 785] (by decide +kernel) (by decide +kernel)
set_option maxRecDepth 20000 in
theorem gL_law_X6_lay : GoodIn wsL_law (wsV RL 30 RX6 yX6_lay wsX6_lay) := goodIn_app (goodIn_of _ (by decide +kernel)) ggL_law_X6_lay
set_option maxRecDepth 20000 in
theorem ggL_law_X5_mould : GoodIn wsL_law wsX5_mould := goodIn_r _ [318, 319, 320, 2, 321, 322, 323, 324, 325, 27, 326, 327, 328, 329, 23, 22, 24, 330, 331, 332, 333, 334, 26, 335, 336, 56, 178, 148, 149, 150, 57, 58, 59, 60, 61, 62, 63, 64, 68, 337, 67, 338, 339, 72, 73, 74, 75, 340, 76, 341, 342, 343, 344, 754, 755, 756, 757, 758, 759, 760, 761, 762, 799, 800, 801, 802, 803, 804, 805, 806, 807, 808, 818, 819, 820, 821, 822] (by decide +kernel) (by decide +kernel)
set_option maxRecDepth 20000 in
theorem gL_law_X5_mould : GoodIn wsL_law (wsV RL 31 RX5 yX5_mould wsX5_mould) := goodIn_app (goodIn_of _ (by decide +kernel)) ggL_law_X5_mould
set_option maxRecDepth 20000 in
theorem ggL_law_X6_mould : GoodIn wsL_law wsX6_mould := goodIn_r _ [348, 194, 271, 272, 5, 273, 349, 350, 351, 352, 223, 195, 763, 764, 765, 766, 767, 768, 769, 770, 771, 772, 773, 774, 775, 776, 777, 778, 779, 780, 781, 782, 783, 784, 785] (by decide +kernel) (by decide +kernel)
set_option maxRecDepth 20000 in
theorem gL_law_X6_mould : GoodIn wsL_law (wsV RL 34 RX6 yX6_mould wsX6_mould) := goodIn_app (goodIn_of _ (by decide +kernel)) ggL_law_X6_mould
set_option maxRecDepth 20000 in
theorem ggL_law_X5_core : GoodIn wsL_law wsX5_core := goodIn_r _ [356, 27, 357, 358, 359, 2, 360, 19, 319, 320, 321, 361, 362, 363, 364, 365, 26, 366, 367, 60, 368, 369, 370, 371, 372, 373, 374, 375, 326, 327, 328, 329, 23, 22, 24, 330, 331, 332, 333, 334, 335, 336, 56, 178, 148, 149, 150, 57, 58, 59, 61, 62, 63, 64, 68, 337, 67, 338, 339, 72, 73, 74, 75, 340, 76, 376, 377, 378, 379, 380, 381, 382, 754, 755, 756, 757, 758, 759, 760, 761, 762, 799, 800, 801, 802, 803, 804, 805, 806, 807, 808, 789, 790, 791, 792, 793, 794, 795, 796, 797, 798, 818, 819, 820, 821, 822] (by decide +kernel) (by decide +kernel)
set_option maxRecDepth 20000 in
theorem gL_law_X5_core : GoodIn wsL_law (wsV RL 35 RX5 yX5_core wsX5_core) := goodIn_app (goodIn_of _ (by decide +kernel)) ggL_law_X5_core
set_option maxRecDepth 20000 in
theorem ggL_law_X6_core : GoodIn wsL_law wsX6_core := goodIn_r _ [386, 194, 387, 388, 389, 5, 390, 221, 271, 272, 273, 391, 392, 393, 394, 192, 349, 350, 351, 352, 223, 195, 395, 396, 397, 763, 764, 765, 766, 767, 768, 769, 770, 771, 772, 773, 774, 775, 776, 777, 778, 779, 780, 781, 782, 783, 784, 785] (by decide +kernel) (by decide +kernel)
set_option maxRecDepth 20000 in
theorem gL_law_X6_core : GoodIn wsL_law (wsV RL 39 RX6 yX6_core wsX6_core) := goodIn_app (goodIn_of _ (by decide +kernel)) ggL_law_X6_core
set_option maxRecDepth 20000 in
theorem ggL_law_X5_against : GoodIn wsL_law wsX5_against := goodIn_r _ [401, 357, 358, 359, 2, 360, 19, 319, 320, 321, 361, 362, 363, 364, 27, 365, 26, 366, 367, 60, 368, 369, 370, 371, 372, 373, 374, 375, 754, 755, 756, 757, 758, 759, 760, 761, 762, 789, 790, 791, 792, 793, 794, 795, 796, 797, 798, 799, 800, 801, 802, 803, 804, 805, 806, 807, 808] (by decide +kernel) (by decide +kernel)
set_option maxRecDepth 20000 in
theorem gL_law_X5_against : GoodIn wsL_law (wsV RL 40 RX5 yX5_against wsX5_against) := goodIn_app (goodIn_of _ (by decide +kernel)) ggL_law_X5_against
set_option maxRecDepth 20000 in
theorem ggL_law_X6_against : GoodIn wsL_law wsX6_against := goodIn_r _ [405, 387, 388, 389, 5, 390, 221, 271, 272, 273, 391, 392, 393, 394, 194, 192, 763, 764, 765, 766, 767, 768, 769, 770, 771, 772, 773, 774, 775, 776, 777, 778, 779, 780, 781, 782, 783, 784, 785] (by decide +kernel) (by decide +kernel)
set_option maxRecDepth 20000 in
theorem gL_law_X6_against : GoodIn wsL_law (wsV RL 43 RX6 yX6_against wsX6_against) := goodIn_app (goodIn_of _ (by decide +kernel)) ggL_law_X6_against
set_option maxRecDepth 20000 in
theorem ggL_law_X5_drag : GoodIn wsL_law wsX5_drag := goodIn_r _ [409, 27, 410, 411, 412, 2, 413, 19, 326, 327, 328, 329, 23, 22, 24, 330, 331, 332, 333, 334, 26, 335, 336, 56, 178, 148, 149, 150, 57, 58, 59, 60, 61, 62, 63, 64, 68, 337, 67, 338, 339, 72, 73, 74, 75, 340, 76, 754, 755, 756, 757, 758, 759, 760, 761, 762, 799, 800, 801, 802, 803, 804, 805, 806, 807, 808, 789, 790, 791, 792, 793, 794, 795, 796, 797, 798, 818, 819, 820, 821, 822] (by decide +kernel) (by decide +kernel)
set_option maxRecDepth 20000 in
theorem gL_law_X5_drag : GoodIn wsL_law (wsV RL 44 RX5 yX5_drag wsX5_drag) := goodIn_app (goodIn_of _ (by decide +kernel)) ggL_law_X5_drag
set_option maxRecDepth 20000 in
theorem ggL_law_X6_drag : GoodIn wsL_law wsX6_drag := goodIn_r _ [417, 418, 419, 420, 5, 421, 220, 271, 272, 273, 422, 423, 424, 425, 194, 349, 350, 351, 352, 223, 195, 763, 764, 765, 766, 767, 768, 769, 770, 771, 772, 773, 774, 775, 776, 777, 778, 779, 780, 781, 782, 783, 784, 785] (by decide +kernel) (by decide +kernel)
set_option maxRecDepth 20000 in
theorem gL_law_X6_drag : GoodIn wsL_law (wsV RL 47 RX6 yX6_drag wsX6_drag) := goodIn_app (goodIn_of _ (by decide +kernel)) ggL_law_X6_drag
set_option maxRecDepth 20000 in
theorem ggL_law_X5_speed : GoodIn wsL_law wsX5_speed := goodIn_r _ [429, 19, 27, 326, 327, 328, 2, 329, 23, 22, 24, 330, 331, 332, 333, 334, 26, 335, 336, 56, 178, 148, 149, 150, 57, 58, 59, 60, 61, 62, 63, 64, 68, 337, 67, 338, 339, 72, 73, 74, 75, 340, 76, 754, 755, 756, 757, 758, 759, 760, 761, 762, 789, 790, 791, 792, 793, 794, 795, 796, 797, 798, 799, 800, 801, 802, 803, 804, 805, 806, 807, 808, 818, 819, 820, 821, 822] (by decide +kernel) (by decide +kernel)
set_option maxRecDepth 20000 in
theorem gL_law_X5_speed : GoodIn wsL_law (wsV RL 48 RX5 yX5_speed wsX5_speed) := goodIn_app (goodIn_of _ (by decide +kernel)) ggL_law_X5_speed
set_option maxRecDepth 20000 in
theorem ggL_law_X6_speed : GoodIn wsL_law wsX6_speed := goodIn_r _ [433, 222, 271, 272, 5, 273, 422, 423, 424, 425, 194, 349, 350, 351, 352, 223, 195, 763, 764, 765, 766, 767, 768, 769, 770, 771, 772, 773, 774, 775, 776, 777, 778, 779, 780, 781, 782, 783, 784, 785] (by decide +kernel) (by decide +kernel)
set_option maxRecDepth 20000 in
theorem gL_law_X6_speed : GoodIn wsL_law (wsV RL 51 RX6 yX6_speed wsX6_speed) := goodIn_app (goodIn_of _ (by decide +kernel)) ggL_law_X6_speed
set_option maxRecDepth 20000 in
theorem ggL_law_X5_tell : GoodIn wsL_law wsX5_tell := goodIn_r _ [437, 438, 439, 27, 326, 327, 328, 2, 329, 23, 22, 24, 330, 331, 332, 333, 334, 26, 335, 336, 56, 178, 148, 149, 150, 57, 58, 59, 60, 61, 62, 63, 64, 68, 337, 67, 338, 339, 72, 73, 74, 75, 340, 76, 754, 755, 756, 757, 758, 759, 760, 761, 762, 799, 800, 801, 802, 803, 804, 805, 806, 807, 808, 818, 819, 820, 821, 822] (by decide +kernel) (by decide +kernel)
set_option maxRecDepth 20000 in
theorem gL_law_X5_tell : GoodIn wsL_law (wsV RL 52 RX5 yX5_tell wsX5_tell) := goodIn_app (goodIn_of _ (by decide +kernel)) ggL_law_X5_tell
set_option maxRecDepth 20000 in
theorem ggL_law_X6_tell : GoodIn wsL_law wsX6_tell := goodIn_r _ [443, 271, 272, 5, 273, 290, 291, 292, 293, 294, 295, 422, 423, 424, 425, 194, 349, 350, 351, 352, 223, 195, 763, 764, 765, 766, 767, 768, 769, 770, 771, 772, 773, 774, 775, 776, 777, 778, 779, 780, 781, 782, 783, 784, 785] (by decide +kernel) (by decide +kernel)
set_option maxRecDepth 20000 in
theorem gL_law_X6_tell : GoodIn wsL_law (wsV RL 55 RX6 yX6_tell wsX6_tell) := goodIn_app (goodIn_of _ (by decide +kernel)) ggL_law_X6_tell
set_option maxRecDepth 20000 in
theorem ggL_law_X5_shoot : GoodIn wsL_law wsX5_shoot := goodIn_r _ [447, 27, 29, 19, 448, 449, 450, 2, 451, 376, 377, 378, 379, 380, 381, 382, 326, 327, 328, 329, 23, 22, 24, 330, 331, 332, 333, 334, 26, 335, 336, 56, 178, 148, 149, 150, 57, 58, 59, 60, 61, 62, 63, 64, 68, 337, 67, 338, 339, 72, 73, 74, 75, 340, 76, 452, 31, 453, 454, 87, 455, 456, 457, 458, 80, 81, 82, 83, 84, 86, 88, 459, 460, 461, 462, 463, 464, 465, 466, 85, 467, 468, 469, 470, 471, 472, 473, 474, 475, 476, 477, 478, 479, 480, 481, 482, 483, 484, 485, 486, 487, 488, 489, 490, 491, 492, 493, 494, 495, 496, 497, 754, 755, 756, 757, 758, 759, 760, 761, 762, 799, 800, 801, 802, 803, 804, 805, 806, 807, 808, 789, 790, 791, 792, 793, 794, 795, 796, 797, 798, 818, 819, 820, 821, 822, 809, 810, 811, 812, 813, 814, 815, 816, 817] (by decide +kernel) (by decide +kernel)
set_option maxRecDepth 20000 in
theorem gL_law_X5_shoot : GoodIn wsL_law (wsV RL 56 RX5 yX5_shoot wsX5_shoot) := goodIn_app (goodIn_of _ (by decide +kernel)) ggL_law_X5_shoot
set_option maxRecDepth 20000 in
theorem ggL_law_X6_shoot : GoodIn wsL_law wsX6_shoot := goodIn_r _ [501, 194, 196, 502, 503, 504, 5, 505, 221, 349, 350, 351, 352, 223, 195, 506, 507, 508, 509, 510, 220, 511, 512, 513, 514, 190, 515, 516, 517, 518, 222, 193, 519, 520, 521, 522, 523, 524, 525, 526, 527, 528, 529, 530, 531, 532, 533, 534, 191, 763, 764, 765, 766, 767, 768, 769, 770, 771, 772, 773, 774, 775, 776, 777, 778, 779, 780, 781, 782, 783, 784, 785] (by decide +kernel) (by decide +kernel)
set_option maxRecDepth 20000 in
theorem gL_law_X6_shoot : GoodIn wsL_law (wsV RL 59 RX6 yX6_shoot wsX6_shoot) := goodIn_app (goodIn_of _ (by decide +kernel)) ggL_law_X6_shoot
set_option maxRecDepth 20000 in
theorem ggL_law_X5_waitCool : GoodIn wsL_law wsX5_waitCool := goodIn_r _ [538, 27, 326, 327, 328, 2, 329, 23, 22, 24, 330, 331, 332, 333, 334, 26, 335, 336, 56, 178, 148, 149, 150, 57, 58, 59, 60, 61, 62, 63, 64, 68, 337, 67, 338, 339, 72, 73, 74, 75, 340, 76, 539, 540, 541, 542, 543, 544, 545, 546, 29, 547, 548, 549, 550, 754, 755, 756, 757, 758, 759, 760, 761, 762, 799, 800, 801, 802, 803, 804, 805, 806, 807, 808, 809, 810, 811, 812, 813, 814, 815, 816, 817, 818, 819, 820, 821, 822] (by decide +kernel) (by decide +kernel)
set_option maxRecDepth 20000 in
theorem gL_law_X5_waitCool : GoodIn wsL_law (wsV RL 60 RX5 yX5_waitCool wsX5_waitCool) := goodIn_app (goodIn_of _ (by decide +kernel)) ggL_law_X5_waitCool
set_option maxRecDepth 20000 in
theorem ggL_law_X6_waitCool : GoodIn wsL_law wsX6_waitCool := goodIn_r _ [554, 194, 349, 350, 351, 5, 352, 223, 195, 763, 764, 765, 766, 767, 768, 769, 770, 771, 772, 773, 774, 775, 776, 777, 778, 779, 780, 781, 782, 783, 784, 785] (by decide +kernel) (by decide +kernel)
set_option maxRecDepth 20000 in
theorem gL_law_X6_waitCool : GoodIn wsL_law (wsV RL 63 RX6 yX6_waitCool wsX6_waitCool) := goodIn_app (goodIn_of _ (by decide +kernel)) ggL_law_X6_waitCool
set_option maxRecDepth 20000 in
theorem ggL_law_X5_undo : GoodIn wsL_law wsX5_undo := goodIn_r _ [558, 24, 23, 22, 27, 754, 755, 756, 757, 758, 759, 760, 761, 762] (by decide +kernel) (by decide +kernel)
set_option maxRecDepth 20000 in
theorem gL_law_X5_undo : GoodIn wsL_law (wsV RL 64 RX5 yX5_undo wsX5_undo) := goodIn_app (goodIn_of _ (by decide +kernel)) ggL_law_X5_undo
set_option maxRecDepth 20000 in
theorem ggL_law_X6_undo : GoodIn wsL_law wsX6_undo := goodIn_r _ [562, 223, 194, 195, 763, 764, 765, 766, 767, 768, 769, 770, 771, 772, 773, 774, 775, 776, 777, 778, 779, 780, 781, 782, 783, 784, 785] (by decide +kernel) (by decide +kernel)
set_option maxRecDepth 20000 in
theorem gL_law_X6_undo : GoodIn wsL_law (wsV RL 67 RX6 yX6_undo wsX6_undo) := goodIn_app (goodIn_of _ (by decide +kernel)) ggL_law_X6_undo
set_option maxRecDepth 20000 in
theorem ggL_law_X5_teach : GoodIn wsL_law wsX5_teach := goodIn_r _ [566, 19, 27, 567, 568, 569, 2, 570, 539, 540, 541, 542, 330, 331, 332, 333, 543, 544, 545, 546, 29, 547, 548, 549, 550, 571, 31, 572, 573, 80, 326, 327, 328, 329, 23, 22, 24, 334, 26, 335, 336, 56, 178, 148, 149, 150, 57, 58, 59, 60, 61, 62, 63, 64, 68, 337, 67, 338, 339, 72, 73, 74, 75, 340, 76, 574, 575, 576, 577, 578, 465, 466, 754, 755, 756, 757, 758, 759, 760, 761, 762, 799, 800, 801, 802, 803, 804, 805, 806, 807, 808, 818, 819, 820, 821, 822, 789, 790, 791, 792, 793, 794, 795, 796, 797, 798, 809, 810, 811, 812, 813, 814, 815, 816, 817] (by decide +kernel) (by decide +kernel)
set_option maxRecDepth 20000 in
theorem gL_law_X5_teach : GoodIn wsL_law (wsV RL 68 RX5 yX5_teach wsX5_teach) := goodIn_app (goodIn_of _ (by decide +kernel)) ggL_law_X5_teach
set_option maxRecDepth 20000 in
theorem ggL_law_X6_teach : GoodIn wsL_law wsX6_teach := goodIn_r _ [582, 194, 583, 584, 585, 5, 586, 271, 272, 273, 587, 588, 589, 590, 220, 591, 592, 593, 594, 190, 349, 350, 351, 352, 223, 195, 763, 764, 765, 766, 767, 768, 769, 770, 771, 772, 773, 774, 775, 776, 777, 778, 779, 780, 781, 782, 783, 784, 785] (by decide +kernel) (by decide +kernel)
set_option maxRecDepth 20000 in
theorem gL_law_X6_teach : GoodIn wsL_law (wsV RL 71 RX6 yX6_teach wsX6_teach) := goodIn_app (goodIn_of _ (by decide +kernel)) ggL_law_X6_teach
set_option maxRecDepth 20000 in
theorem ggL_law_X5_forget : GoodIn wsL_law wsX5_forget := goodIn_r _ [598, 27, 326, 327, 328, 2, 329, 23, 22, 24, 330, 331, 332, 333, 334, 26, 335, 336, 56, 178, 148, 149, 150, 57, 58, 59, 60, 61, 62, 63, 64, 68, 337, 67, 338, 339, 72, 73, 74, 75, 340, 76, 179, 180, 181, 754, 755, 756, 757, 758, 759, 760, 761, 762, 799, 800, 801, 802, 803, 804, 805, 806, 807, 808, 818, 819, 820, 821, 822] (by decide +kernel) (by decide +kernel)
set_option maxRecDepth 20000 in
theorem gL_law_X5_forget : GoodIn wsL_law (wsV RL 72 RX5 yX5_forget wsX5_forget) := goodIn_app (goodIn_of _ (by decide +kernel)) ggL_law_X5_forget
set_option maxRecDepth 20000 in
theorem ggL_law_X6_forget : GoodIn wsL_law wsX6_forget := goodIn_r _ [602, 194, 349, 350, 351, 5, 352, 223, 195, 763, 764, 765, 766, 767, 768, 769, 770, 771, 772, 773, 774, 775, 776, 777, 778, 779, 780, 781, 782, 783, 784, 785] (by decide +kernel) (by decide +kernel)
set_option maxRecDepth 20000 in
theorem gL_law_X6_forget : GoodIn wsL_law (wsV RL 75 RX6 yX6_forget wsX6_forget) := goodIn_app (goodIn_of _ (by decide +kernel)) ggL_law_X6_forget
set_option maxRecDepth 20000 in
theorem ggL_law_X5_wide : GoodIn wsL_law wsX5_wide := goodIn_r _ [606, 27, 326, 327, 328, 2, 329, 23, 22, 24, 330, 331, 332, 333, 334, 26, 335, 336, 56, 178, 148, 149, 150, 57, 58, 59, 60, 61, 62, 63, 64, 68, 337, 67, 338, 339, 72, 73, 74, 75, 340, 76, 754, 755, 756, 757, 758, 759, 760, 761, 762, 799, 800, 801, 802, 803, 804, 805, 806, 807, 808, 818, 819, 820, 821, 822] (by decide +kernel) (by decide +kernel)
set_option maxRecDepth 20000 in
theorem gL_law_X5_wide : GoodIn wsL_law (wsV RL 76 RX5 yX5_wide wsX5_wide) := goodIn_app (goodIn_of _ (by decide +kernel)) ggL_law_X5_wide
set_option maxRecDepth 20000 in
theorem ggL_law_X6_wide : GoodIn wsL_law wsX6_wide := goodIn_r _ [610, 271, 272, 5, 273, 422, 423, 424, 425, 194, 349, 350, 351, 352, 223, 195, 763, 764, 765, 766, 767, 768, 769, 770, 771, 772, 773, 774, 775, 776, 777, 778, 779, 780, 781, 782, 783, 784, 785] (by decide +kernel) (by decide +kernel)
set_option maxRecDepth 20000 in
theorem gL_law_X6_wide : GoodIn wsL_law (wsV RL 79 RX6 yX6_wide wsX6_wide) := goodIn_app (goodIn_of _ (by decide +kernel)) ggL_law_X6_wide
set_option maxRecDepth 20000 in
theorem ggL_law_X5_band : GoodIn wsL_law wsX5_band := goodIn_r _ [614, 27, 615, 616, 2, 617, 319, 320, 321, 754, 755, 756, 757, 758, 759, 760, 761, 762, 799, 800, 801, 802, 803, 804, 805, 806, 807, 808, 818, 819, 820, 821, 822] (by decide +kernel) (by decide +kernel)
set_option maxRecDepth 20000 in
theorem gL_law_X5_band : GoodIn wsL_law (wsV RL 80 RX5 yX5_band wsX5_band) := goodIn_app (goodIn_of _ (by decide +kernel)) ggL_law_X5_band
set_option maxRecDepth 20000 in
theorem ggL_law_X6_band : GoodIn wsL_law wsX6_band := goodIn_r _ [621, 194, 271, 272, 5, 273, 763, 764, 765, 766, 767, 768, 769, 770, 771, 772, 773, 774, 775, 776, 777, 778, 779, 780, 781, 782, 783, 784, 785] (by decide +kernel) (by decide +kernel)
set_option maxRecDepth 20000 in
theorem gL_law_X6_band : GoodIn wsL_law (wsV RL 83 RX6 yX6_band wsX6_band) := goodIn_app (goodIn_of _ (by decide +kernel)) ggL_law_X6_band
set_option maxRecDepth 20000 in
theorem ggL_law_X5_shot : GoodIn wsL_law wsX5_shot := goodIn_r _ [625, 27, 567, 568, 569, 2, 570, 539, 540, 541, 542, 330, 331, 332, 333, 543, 544, 545, 546, 29, 547, 548, 549, 550, 626, 67, 627, 628, 75, 76, 629, 630, 631, 632, 19, 633, 31, 634, 635, 80, 636, 637, 638, 639, 640, 641, 72, 73, 74, 642, 643, 644, 645, 85, 86, 88, 84, 646, 647, 648, 649, 82, 463, 464, 465, 466, 650, 495, 496, 497, 87, 651, 652, 653, 654, 83, 754, 755, 756, 757, 758, 759, 760, 761, 762, 799, 800, 801, 802, 803, 804, 805, 806, 807, 808, 818, 819, 820, 821, 822, 809, 810, 811, 812, 813, 814, 815, 816, 817, 789, 790, 791, 792, 793, 794, 795, 796, 797, 798] (by decide +kernel) (by decide +kernel)
set_option maxRecDepth 20000 in
theorem gL_law_X5_shot : GoodIn wsL_law (wsV RL 84 RX5 yX5_shot wsX5_shot) := goodIn_app (goodIn_of _ (by decide +kernel)) ggL_law_X5_shot
set_option maxRecDepth 20000 in
theorem ggL_law_X6_shot : GoodIn wsL_law wsX6_shot := goodIn_r _ [658, 194, 583, 584, 585, 5, 586, 271, 272, 273, 659, 660, 661, 662, 663, 664, 665, 220, 666, 667, 668, 669, 190, 591, 592, 593, 594, 670, 671, 672, 673, 763, 764, 765, 766, 767, 768, 769, 770, 771, 772, 773, 774, 775, 776, 777, 778, 779, 780, 781, 782, 783, 784, 785] (by decide +kernel) (by decide +kernel)
set_option maxRecDepth 20000 in
theorem gL_law_X6_shot : GoodIn wsL_law (wsV RL 87 RX6 yX6_shot wsX6_shot) := goodIn_app (goodIn_of _ (by decide +kernel)) ggL_law_X6_shot
set_option maxRecDepth 20000 in
theorem ggL_law_X5_curve : GoodIn wsL_law wsX5_curve := goodIn_r _ [677, 567, 568, 569, 2, 570, 539, 540, 541, 542, 27, 330, 331, 332, 333, 615, 616, 617, 543, 544, 545, 546, 29, 547, 548, 549, 550, 809, 810, 811, 812, 813, 814, 815, 816, 817, 754, 755, 756, 757, 758, 759, 760, 761, 762, 799, 800, 801, 802, 803, 804, 805, 806, 807, 808] (by decide +kernel) (by decide +kernel)
set_option maxRecDepth 20000 in
theorem gL_law_X5_curve : GoodIn wsL_law (wsV RL 88 RX5 yX5_curve wsX5_curve) := goodIn_app (goodIn_of _ (by decide +kernel)) ggL_law_X5_curve
set_option maxRecDepth 20000 in
theorem ggL_law_X6_curve : GoodIn wsL_law wsX6_curve := goodIn_r _ [681, 194, 583, 584, 585, 5, 586, 271, 272, 273, 763, 764, 765, 766, 767, 768, 769, 770, 771, 772, 773, 774, 775, 776, 777, 778, 779, 780, 781, 782, 783, 784, 785] (by decide +kernel) (by decide +kernel)
set_option maxRecDepth 20000 in
theorem gL_law_X6_curve : GoodIn wsL_law (wsV RL 91 RX6 yX6_curve wsX6_curve) := goodIn_app (goodIn_of _ (by decide +kernel)) ggL_law_X6_curve
set_option maxRecDepth 20000 in
theorem ggL_law_X5_cavity : GoodIn wsL_law wsX5_cavity := goodIn_r _ [685, 19, 27, 410, 411, 412, 2, 413, 754, 755, 756, 757, 758, 759, 760, 761, 762, 789, 790, 791, 792, 793, 794, 795, 796, 797, 798, 799, 800, 801, 802, 803, 804, 805, 806, 807, 808] (by decide +kernel) (by decide +kernel)
set_option maxRecDepth 20000 in
theorem gL_law_X5_cavity : GoodIn wsL_law (wsV RL 92 RX5 yX5_cavity wsX5_cavity) := goodIn_app (goodIn_of _ (by decide +kernel)) ggL_law_X5_cavity
set_option maxRecDepth 20000 in
theorem ggL_law_X6_cavity : GoodIn wsL_law wsX6_cavity := goodIn_r _ [689, 190, 194, 191, 418, 419, 420, 5, 421, 220, 271, 272, 273, 763, 764, 765, 766, 767, 768, 769, 770, 771, 772, 773, 774, 775, 776, 777, 778, 779, 780, 781, 782, 783, 784, 785] (by decide +kernel) (by decide +kernel)
set_option maxRecDepth 20000 in
theorem gL_law_X6_cavity : GoodIn wsL_law (wsV RL 95 RX6 yX6_cavity wsX6_cavity) := goodIn_app (goodIn_of _ (by decide +kernel)) ggL_law_X6_cavity
set_option maxRecDepth 20000 in
theorem ggL_law_X5_filled : GoodIn wsL_law wsX5_filled := goodIn_r _ [693, 19, 694, 465, 332, 466, 567, 568, 569, 2, 570, 539, 540, 541, 542, 27, 330, 331, 333, 410, 411, 412, 413, 543, 544, 545, 546, 29, 547, 548, 549, 550, 809, 810, 811, 812, 813, 814, 815, 816, 817, 754, 755, 756, 757, 758, 759, 760, 761, 762, 789, 790, 791, 792, 793, 794, 795, 796, 797, 798, 799, 800, 801, 802, 803, 804, 805, 806, 807, 808] (by decide +kernel) (by decide +kernel)
set_option maxRecDepth 20000 in
theorem gL_law_X5_filled : GoodIn wsL_law (wsV RL 96 RX5 yX5_filled wsX5_filled) := goodIn_app (goodIn_of _ (by decide +kernel)) ggL_law_X5_filled
set_option maxRecDepth 20000 in
theorem ggL_law_X6_filled : GoodIn wsL_law wsX6_filled := goodIn_r _ [698, 194, 583, 584, 585, 5, 586, 271, 272, 273, 418, 419, 420, 421, 220, 591, 592, 593, 594, 190, 666, 667, 668, 669, 763, 764, 765, 766, 767, 768, 769, 770, 771, 772, 773, 774, 775, 776, 777, 778, 779, 780, 781, 782, 783, 784, 785] (by decide +kernel) (by decide +kernel)
set_option maxRecDepth 20000 in
theorem gL_law_X6_filled : GoodIn wsL_law (wsV RL 100 RX6 yX6_filled wsX6_filled) := goodIn_app (goodIn_of _ (by decide +kernel)) ggL_law_X6_filled
set_option maxRecDepth 20000 in
theorem ggL_law_X5_tried : GoodIn wsL_law wsX5_tried := goodIn_r _ [702, 32, 19, 27, 452, 31, 453, 454, 87, 455, 456, 457, 458, 80, 81, 82, 83, 84, 86, 88, 459, 460, 461, 462, 463, 331, 332, 333, 464, 465, 466, 85, 467, 468, 469, 470, 471, 472, 473, 474, 475, 476, 477, 478, 479, 480, 481, 482, 483, 484, 485, 486, 487, 488, 489, 490, 491, 492, 493, 494, 643, 644, 645, 646, 647, 648, 649, 650, 495, 496, 497, 651, 652, 653, 654, 754, 755, 756, 757, 758, 759, 760, 761, 762, 799, 800, 801, 802, 803, 804, 805, 806, 807, 808, 809, 810, 811, 812, 813, 814, 815, 816, 817, 789, 790, 791, 792, 793, 794, 795, 796, 797, 798] (by decide +kernel) (by decide +kernel)
set_option maxRecDepth 20000 in
theorem gL_law_X5_tried : GoodIn wsL_law (wsV RL 101 RX5 yX5_tried wsX5_tried) := goodIn_app (goodIn_of _ (by decide +kernel)) ggL_law_X5_tried
set_option maxRecDepth 20000 in
theorem ggL_law_X6_tried : GoodIn wsL_law wsX6_tried := goodIn_r _ [706, 196, 271, 272, 5, 273, 506, 507, 508, 509, 510, 194, 220, 511, 512, 513, 514, 190, 515, 516, 517, 518, 222, 193, 519, 520, 521, 522, 523, 524, 525, 526, 527, 528, 529, 530, 531, 532, 533, 534, 191, 659, 660, 661, 763, 764, 765, 766, 767, 768, 769, 770, 771, 772, 773, 774, 775, 776, 777, 778, 779, 780, 781, 782, 783, 784, 785] (by decide +kernel) (by decide +kernel)
set_option maxRecDepth 20000 in
theorem gL_law_X6_tried : GoodIn wsL_law (wsV RL 104 RX6 yX6_tried wsX6_tried) := goodIn_app (goodIn_of _ (by decide +kernel)) ggL_law_X6_tried
set_option maxRecDepth 20000 in
theorem ggL_law_X5_even : GoodIn wsL_law wsX5_even := goodIn_r _ [710, 319, 320, 2, 321, 711, 712, 713, 714, 32, 19, 27, 452, 31, 453, 454, 87, 455, 456, 457, 458, 80, 81, 82, 83, 84, 86, 88, 459, 460, 461, 462, 463, 331, 332, 333, 464, 465, 466, 85, 467, 468, 469, 470, 471, 472, 473, 474, 475, 476, 477, 478, 479, 480, 481, 482, 483, 484, 485, 486, 487, 488, 489, 490, 491, 492, 493, 494, 647, 648, 649, 754, 755, 756, 757, 758, 759, 760, 761, 762, 799, 800, 801, 802, 803, 804, 805, 806, 807, 808, 809, 810, 811, 812, 813, 814, 815, 816, 817, 789, 790, 791, 792, 793, 794, 795, 796, 797, 798] (by decide +kernel) (by decide +kernel)
set_option maxRecDepth 20000 in
theorem gL_law_X5_even : GoodIn wsL_law (wsV RL 105 RX5 yX5_even wsX5_even) := goodIn_app (goodIn_of _ (by decide +kernel)) ggL_law_X5_even
set_option maxRecDepth 20000 in
theorem ggL_law_X6_even : GoodIn wsL_law wsX6_even := goodIn_r _ [718, 196, 271, 272, 5, 273, 506, 507, 508, 509, 510, 194, 220, 511, 512, 513, 514, 190, 515, 516, 517, 518, 222, 193, 519, 520, 521, 522, 523, 524, 525, 526, 527, 528, 529, 530, 531, 532, 533, 534, 191, 763, 764, 765, 766, 767, 768, 769, 770, 771, 772, 773, 774, 775, 776, 777, 778, 779, 780, 781, 782, 783, 784, 785] (by decide +kernel) (by decide +kernel)
set_option maxRecDepth 20000 in
theorem gL_law_X6_even : GoodIn wsL_law (wsV RL 108 RX6 yX6_even wsX6_even) := goodIn_app (goodIn_of _ (by decide +kernel)) ggL_law_X6_even
set_option maxRecDepth 20000 in
theorem ggL_law_X5_earlier : GoodIn wsL_law wsX5_earlier := goodIn_r _ [722, 19, 357, 358, 359, 2, 360, 754, 755, 756, 757, 758, 759, 760, 761, 762, 789, 790, 791, 792, 793, 794, 795, 796, 797, 798] (by decide +kernel) (by decide +kernel)
set_option maxRecDepth 20000 in
theorem gL_law_X5_earlier : GoodIn wsL_law (wsV RL 109 RX5 yX5_earlier wsX5_earlier) := goodIn_app (goodIn_of _ (by decide +kernel)) ggL_law_X5_earlier
set_option maxRecDepth 20000 in
theorem ggL_law_X6_earlier : GoodIn wsL_law wsX6_earlier := goodIn_r _ [726, 192, 387, 388, 389, 5, 390, 221, 271, 272, 273, 763, 764, 765, 766, 767, 768, 769, 770, 771, 772, 773, 774, 775, 776, 777, 778, 779, 780, 781, 782, 783, 784, 785] (by decide +kernel) (by decide +kernel)
set_option maxRecDepth 20000 in
theorem gL_law_X6_earlier : GoodIn wsL_law (wsV RL 112 RX6 yX6_earlier wsX6_earlier) := goodIn_app (goodIn_of _ (by decide +kernel)) ggL_law_X6_earlier
set_option maxRecDepth 20000 in
theorem ggL_law_X5_order : GoodIn wsL_law wsX5_order := goodIn_r _ [730, 19, 731, 18, 732, 733, 47, 734, 735, 736, 737, 48, 754, 755, 756, 757, 758, 759, 760, 761, 762, 789, 790, 791, 792, 793, 794, 795, 796, 797, 798] (by decide +kernel) (by decide +kernel)
set_option maxRecDepth 20000 in
theorem gL_law_X5_order : GoodIn wsL_law (wsV RL 113 RX5 yX5_order wsX5_order) := goodIn_app (goodIn_of _ (by decide +kernel)) ggL_law_X5_order
set_option maxRecDepth 20000 in
theorem ggL_law_X6_order : GoodIn wsL_law wsX6_order := goodIn_r _ [741, 221, 192, 763, 764, 765, 766, 767, 768, 769, 770, 771, 772, 773, 774, 775, 776, 777, 778, 779, 780, 781, 782, 783, 784, 785] (by decide +kernel) (by decide +kernel)
set_option maxRecDepth 20000 in
theorem gL_law_X6_order : GoodIn wsL_law (wsV RL 116 RX6 yX6_order wsX6_order) := goodIn_app (goodIn_of _ (by decide +kernel)) ggL_law_X6_order
set_option maxRecDepth 20000 in
theorem ggL_law_X5_count : GoodIn wsL_law wsX5_count := goodIn_r _ [745, 19, 27, 24, 15, 376, 377, 378, 379, 380, 381, 382, 539, 540, 541, 2, 542, 330, 331, 332, 333, 746, 747, 748, 749, 543, 544, 545, 546, 29, 547, 548, 549, 550, 629, 630, 631, 632, 633, 31, 634, 635, 80, 636, 637, 638, 639, 67, 640, 641, 72, 73, 74, 642, 626, 627, 628, 75, 76, 448, 449, 450, 451, 754, 755, 756, 757, 758, 759, 760, 761, 762, 789, 790, 791, 792, 793, 794, 795, 796, 797, 798, 799, 800, 801, 802, 803, 804, 805, 806, 807, 808, 818, 819, 820, 821, 822, 786, 787, 788, 809, 810, 811, 812, 813, 814, 815, 816, 817] (by decide +kernel) (by decide +kernel)
set_option maxRecDepth 20000 in
theorem gL_law_X5_count : GoodIn wsL_law (wsV RL 117 RX5 yX5_count wsX5_count) := goodIn_app (goodIn_of _ (by decide +kernel)) ggL_law_X5_count
set_option maxRecDepth 20000 in
theorem ggL_law_X6_count : GoodIn wsL_law wsX6_count := goodIn_r _ [753, 220, 221, 222, 194, 223, 232, 395, 396, 5, 397, 662, 663, 664, 665, 666, 667, 668, 669, 190, 591, 592, 593, 594, 670, 671, 672, 673, 502, 503, 504, 505, 763, 764, 765, 766, 767, 768, 769, 770, 771, 772, 773, 774, 775, 776, 777, 778, 779, 780, 781, 782, 783, 784, 785] (by decide +kernel) (by decide +kernel)
set_option maxRecDepth 20000 in
theorem gL_law_X6_count : GoodIn wsL_law (wsV RL 120 RX6 yX6_count wsX6_count) := goodIn_app (goodIn_of _ (by decide +kernel)) ggL_law_X6_count
