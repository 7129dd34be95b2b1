set_option maxRecDepth 20000 in
theorem ggL_law_X6_init : GoodIn wsL_law wsX6_init := goodIn_r _ [9, 10, 11, 12, 13, 14, 15, 16, 17, 18, 19, 20, 21, 22, 23, 24, 25, 26, 27, 28, 29, 30, 31, 32, 33, 34, 35, 36, 37, 38, 39, 40, 41, 42, 43, 44, 45, 46, 47, 48, 49, 50, 51, 52, 53, 54, 55, 56, 57, 58, 59, 60, 61, 62, 63, 64, 65, 66, 67, 68, 69, 70, 71, 72, 73, 74, 75, 76, 77, 78, 79, 80, 81, 82, 83, 84, 85, 86, 87, 88, 89, 90, 91, 92, 93, 803, 804, 805, 806, 756, 757, 758, 759, 760, 761, 762, 763, 764, 765, 766, 767, 768, 769, 770, 771, 807, 808, 809, 810, 811, 812, 813, 814, 815, 816, 817, 818, 819, 820, 821] (by decide +kernel) (by decide +kernel)
set_option maxRecDepth 20000 in
theorem gL_law_X6_init : GoodIn wsL_law (wsX6_init) := ggL_law_X6_init
set_option maxRecDepth 20000 in
theorem ggL_law_X7_init : GoodIn wsL_law wsX7_init := goodIn_r _ [96, 97, 11, 12, 98, 99, 100, 37, 101, 102, 103, 104, 105, 106, 107, 108, 109, 110, 111, 112, 113, 114, 115, 772, 773, 774, 775, 776, 777, 778, 779, 780, 781, 782, 783, 784, 785, 786, 787, 788, 789, 790, 791, 792, 793, 794, 795, 796, 797, 798, 799, 800, 801, 802] (by decide +kernel) (by decide +kernel)
set_option maxRecDepth 20000 in
theorem gL_law_X7_init : GoodIn wsL_law (wsX7_init) := ggL_law_X7_init
set_option maxRecDepth 20000 in
theorem ggL_law_X6_type : GoodIn wsL_law wsX6_type := goodIn_r _ [119, 16, 120, 121, 122, 15, 123, 50, 52, 124, 125, 126, 127, 51, 49, 128, 129, 130, 131, 132, 133, 134, 135, 136, 137, 138, 139, 140, 141, 37, 142, 143, 144, 145, 146, 756, 757, 758, 759, 760, 761, 762, 763, 764, 765, 766, 767, 768, 769, 770, 771, 803, 804, 805, 806] (by decide +kernel) (by decide +kernel)
set_option maxRecDepth 20000 in
theorem gL_law_X6_type : GoodIn wsL_law (wsV RL 15 RX6 yX6_type wsX6_type) := goodIn_app (goodIn_of _ (by decide +kernel)) ggL_law_X6_type
set_option maxRecDepth 20000 in
theorem ggL_law_X7_type : GoodIn wsL_law wsX7_type := goodIn_r _ [150, 151, 152, 104, 772, 773, 774, 775, 776, 777, 778, 779, 780, 781, 782, 783, 784, 785, 786, 787, 788, 789, 790, 791, 792, 793, 794, 795, 796, 797, 798, 799, 800, 801, 802] (by decide +kernel) (by decide +kernel)
set_option maxRecDepth 20000 in
theorem gL_law_X7_type : GoodIn wsL_law (wsV RL 19 RX7 yX7_type wsX7_type) := goodIn_app (goodIn_of _ (by decide +kernel)) ggL_law_X7_type
set_option maxRecDepth 20000 in
theorem ggL_law_X6_name : GoodIn wsL_law wsX6_name := goodIn_r _ [156, 16, 38, 157, 158, 159, 15, 160, 49, 50, 132, 133, 134, 135, 136, 137, 138, 139, 140, 141, 37, 142, 129, 130, 131, 143, 144, 145, 146, 161, 162, 163, 164, 51, 756, 757, 758, 759, 760, 761, 762, 763, 764, 765, 766, 767, 768, 769, 770, 771, 803, 804, 805, 806] (by decide +kernel) (by decide +kernel)
set_option maxRecDepth 20000 in
theorem gL_law_X6_name : GoodIn wsL_law (wsV RL 20 RX6 yX6_name wsX6_name) := goodIn_app (goodIn_of _ (by decide +kernel)) ggL_law_X6_name
set_option maxRecDepth 20000 in
theorem ggL_law_X7_name : GoodIn wsL_law wsX7_name := goodIn_r _ [168, 151, 152, 105, 104, 169, 772, 773, 774, 775, 776, 777, 778, 779, 780, 781, 782, 783, 784, 785, 786, 787, 788, 789, 790, 791, 792, 793, 794, 795, 796, 797, 798, 799, 800, 801, 802] (by decide +kernel) (by decide +kernel)
set_option maxRecDepth 20000 in
theorem gL_law_X7_name : GoodIn wsL_law (wsV RL 24 RX7 yX7_name wsX7_name) := goodIn_app (goodIn_of _ (by decide +kernel)) ggL_law_X7_name
set_option maxRecDepth 20000 in
theorem ggL_law_X6_fixed : GoodIn wsL_law wsX6_fixed := goodIn_r _ [173, 39, 22, 174, 175, 176, 38, 16, 177, 178, 179, 180, 21, 181, 57, 59, 157, 158, 159, 15, 160, 49, 50, 132, 133, 134, 135, 136, 137, 138, 139, 140, 141, 37, 142, 129, 130, 131, 143, 144, 145, 146, 161, 162, 163, 164, 51, 182, 183, 184, 185, 11, 12, 186, 187, 188, 189, 190, 191, 192, 756, 757, 758, 759, 760, 761, 762, 763, 764, 765, 766, 767, 768, 769, 770, 771, 822, 823, 824, 807, 808, 803, 804, 805, 806] (by decide +kernel) (by decide +kernel)
set_option maxRecDepth 20000 in
theorem gL_law_X6_fixed : GoodIn wsL_law (wsV RL 25 RX6 yX6_fixed wsX6_fixed) := goodIn_app (goodIn_of _ (by decide +kernel)) ggL_law_X6_fixed
set_option maxRecDepth 20000 in
theorem ggL_law_X7_fixed : GoodIn wsL_law wsX7_fixed := goodIn_r _ [196, 151, 197, 198, 199, 200, 201, 5, 202, 169, 100, 105, 152, 104, 101, 772, 773, 774, 775, 776, 777, 778, 779, 780, 781, 782, 783, 784, 785, 786, 787, 788, 789, 790, 791, 792, 793, 794, 795, 796, 797, 798, 799, 800, 801, 802] (by decide +kernel) (by decide +kernel)
set_option maxRecDepth 20000 in
theorem gL_law_X7_fixed : GoodIn wsL_law (wsV RL 28 RX7 yX7_fixed wsX7_fixed) := goodIn_app (goodIn_of _ (by decide +kernel)) ggL_law_X7_fixed
set_option maxRecDepth 20000 in
theorem ggL_law_X6_field : GoodIn wsL_law wsX6_field := goodIn_r _ [206, 23, 174, 175, 176, 38, 16, 177, 178, 179, 180, 21, 181, 57, 59, 157, 158, 159, 15, 160, 49, 50, 132, 133, 134, 135, 136, 137, 138, 139, 140, 141, 37, 142, 129, 130, 131, 143, 144, 145, 146, 161, 162, 163, 164, 51, 182, 183, 184, 185, 11, 12, 186, 187, 188, 189, 190, 191, 192, 756, 757, 758, 759, 760, 761, 762, 763, 764, 765, 766, 767, 768, 769, 770, 771, 822, 823, 824, 807, 808, 803, 804, 805, 806] (by decide +kernel) (by decide +kernel)
set_option maxRecDepth 20000 in
theorem gL_law_X6_field : GoodIn wsL_law (wsV RL 29 RX6 yX6_field wsX6_field) := goodIn_app (goodIn_of _ (by decide +kernel)) ggL_law_X6_field
set_option maxRecDepth 20000 in
theorem ggL_law_X7_field : GoodIn wsL_law wsX7_field := goodIn_r _ [210, 151, 211, 103, 199, 200, 201, 5, 202, 169, 100, 105, 152, 104, 101, 772, 773, 774, 775, 776, 777, 778, 779, 780, 781, 782, 783, 784, 785, 786, 787, 788, 789, 790, 791, 792, 793, 794, 795, 796, 797, 798, 799, 800, 801, 802] (by decide +kernel) (by decide +kernel)
set_option maxRecDepth 20000 in
theorem gL_law_X7_field : GoodIn wsL_law (wsV RL 33 RX7 yX7_field wsX7_field) := goodIn_app (goodIn_of _ (by decide +kernel)) ggL_law_X7_field
set_option maxRecDepth 20000 in
theorem ggL_law_X6_drop : GoodIn wsL_law wsX6_drop := goodIn_r _ [215, 23, 177, 216, 217, 218, 21, 219, 57, 756, 757, 758, 759, 760, 761, 762, 763, 764, 765, 766, 767, 768, 769, 770, 771, 807, 808] (by decide +kernel) (by decide +kernel)
set_option maxRecDepth 20000 in
theorem gL_law_X6_drop : GoodIn wsL_law (wsV RL 34 RX6 yX6_drop wsX6_drop) := goodIn_app (goodIn_of _ (by decide +kernel)) ggL_law_X6_drop
set_option maxRecDepth 20000 in
theorem ggL_law_X7_drop : GoodIn wsL_law wsX7_drop := goodIn_r _ [223, 151, 211, 772, 773, 774, 775, 776, 777, 778, 779, 780, 781, 782, 783, 784, 785, 786, 787, 788, 789, 790, 791, 792, 793, 794, 795, 796, 797, 798, 799, 800, 801, 802] (by decide +kernel) (by decide +kernel)
set_option maxRecDepth 20000 in
theorem gL_law_X7_drop : GoodIn wsL_law (wsV RL 37 RX7 yX7_drop wsX7_drop) := goodIn_app (goodIn_of _ (by decide +kernel)) ggL_law_X7_drop
set_option maxRecDepth 20000 in
theorem ggL_law_X6_limit : GoodIn wsL_law wsX6_limit := goodIn_r _ [227, 27, 41, 228, 129, 130, 131, 229, 230, 231, 26, 232, 68, 233, 234, 235, 236, 66, 67, 237, 238, 239, 240, 241, 242, 243, 244, 65, 245, 246, 247, 176, 248, 186, 187, 756, 757, 758, 759, 760, 761, 762, 763, 764, 765, 766, 767, 768, 769, 770, 771, 809, 810, 811, 812, 813, 822, 823, 824] (by decide +kernel) (by decide +kernel)
set_option maxRecDepth 20000 in
theorem gL_law_X6_limit : GoodIn wsL_law (wsV RL 38 RX6 yX6_limit wsX6_limit) := goodIn_app (goodIn_of _ (by decide +kernel)) ggL_law_X6_limit
set_option maxRecDepth 20000 in
theorem ggL_law_X7_limit : GoodIn wsL_law wsX7_limit := goodIn_r _ [252, 151, 109, 110, 253, 254, 255, 5, 256, 107, 108, 257, 258, 259, 260, 106, 261, 262, 263, 264, 101, 772, 773, 774, 775, 776, 777, 778, 779, 780, 781, 782, 783, 784, 785, 786, 787, 788, 789, 790, 791, 792, 793, 794, 795, 796, 797, 798, 799, 800, 801, 802] (by decide +kernel) (by decide +kernel)
set_option maxRecDepth 20000 in
theorem gL_law_X7_limit : GoodIn wsL_law (wsV RL 41 RX7 yX7_limit wsX7_limit) := goodIn_app (goodIn_of _ (by decide +kernel)) ggL_law_X7_limit
set_option maxRecDepth 20000 in
theorem ggL_law_X6_pack : GoodIn wsL_law wsX6_pack := goodIn_r _ [268, 39, 32, 27, 41, 40, 23, 177, 269, 270, 18, 271, 272, 43, 273, 274, 275, 276, 31, 277, 75, 77, 278, 162, 163, 15, 164, 50, 51, 279, 280, 281, 26, 282, 66, 65, 67, 68, 283, 284, 285, 286, 287, 288, 289, 290, 291, 292, 125, 126, 127, 52, 49, 128, 129, 130, 131, 132, 133, 134, 135, 136, 137, 138, 139, 140, 141, 37, 142, 143, 144, 145, 146, 293, 294, 295, 21, 296, 57, 59, 297, 298, 299, 300, 301, 302, 303, 304, 305, 306, 307, 308, 309, 310, 311, 69, 312, 313, 314, 315, 316, 317, 318, 241, 242, 243, 244, 319, 2, 320, 321, 322, 323, 324, 325, 326, 327, 328, 329, 330, 331, 332, 333, 334, 335, 336, 337, 338, 339, 340, 341, 342, 343, 344, 345, 346, 347, 348, 349, 350, 351, 352, 353, 354, 355, 356, 357, 358, 359, 360, 361, 362, 363, 364, 365, 366, 367, 368, 369, 370, 371, 372, 373, 374, 375, 376, 377, 378, 379, 380, 381, 382, 383, 384, 385, 386, 387, 388, 389, 390, 391, 392, 393, 394, 395, 396, 397, 398, 399, 400, 401, 402, 403, 404, 405, 406, 407, 408, 409, 410, 411, 412, 413, 414, 415, 416, 417, 418, 419, 420, 421, 422, 423, 424, 425, 426, 176, 427, 186, 187, 428, 246, 247, 248, 429, 430, 431, 432, 245, 233, 234, 235, 236, 237, 238, 239, 240, 433, 434, 435, 436, 161, 124, 437, 756, 757, 758, 759, 760, 761, 762, 763, 764, 765, 766, 767, 768, 769, 770, 771, 807, 808, 814, 815, 803, 804, 805, 806, 809, 810, 811, 812, 813, 822, 823, 824] (by decide +kernel) (by decide +kernel)
set_option maxRecDepth 20000 in
theorem gL_law_X6_pack : GoodIn wsL_law (wsV RL 42 RX6 yX6_pack wsX6_pack) := goodIn_app (goodIn_of _ (by decide +kernel)) ggL_law_X6_pack
set_option maxRecDepth 20000 in
theorem ggL_law_X7_pack : GoodIn wsL_law wsX7_pack := goodIn_r _ [441, 151, 106, 107, 108, 198, 442, 211, 443, 109, 110, 111, 444, 112, 113, 445, 446, 447, 5, 448, 449, 450, 451, 452, 453, 454, 455, 456, 457, 458, 459, 460, 197, 103, 461, 462, 463, 464, 257, 258, 259, 260, 465, 466, 467, 468, 101, 100, 261, 262, 263, 264, 469, 470, 471, 472, 473, 474, 475, 476, 477, 478, 479, 480, 332, 481, 338, 339, 340, 341, 342, 343, 344, 482, 483, 355, 484, 485, 486, 487, 386, 488, 489, 389, 490, 491, 492, 369, 493, 494, 495, 496, 380, 381, 382, 497, 394, 395, 396, 397, 398, 399, 498, 499, 500, 501, 502, 503, 504, 505, 506, 507, 508, 253, 254, 255, 256, 509, 510, 511, 512, 772, 773, 774, 775, 776, 777, 778, 779, 780, 781, 782, 783, 784, 785, 786, 787, 788, 789, 790, 791, 792, 793, 794, 795, 796, 797, 798, 799, 800, 801, 802] (by decide +kernel) (by decide +kernel)
set_option maxRecDepth 20000 in
theorem gL_law_X7_pack : GoodIn wsL_law (wsV RL 45 RX7 yX7_pack wsX7_pack) := goodIn_app (goodIn_of _ (by decide +kernel)) ggL_law_X7_pack
set_option maxRecDepth 20000 in
theorem ggL_law_X6_packed : GoodIn wsL_law wsX6_packed := goodIn_r _ [516, 18, 517, 518, 519, 15, 520, 50, 49, 756, 757, 758, 759, 760, 761, 762, 763, 764, 765, 766, 767, 768, 769, 770, 771, 803, 804, 805, 806] (by decide +kernel) (by decide +kernel)
set_option maxRecDepth 20000 in
theorem gL_law_X6_packed : GoodIn wsL_law (wsV RL 46 RX6 yX6_packed wsX6_packed) := goodIn_app (goodIn_of _ (by decide +kernel)) ggL_law_X6_packed
set_option maxRecDepth 20000 in
theorem ggL_law_X7_packed : GoodIn wsL_law wsX7_packed := goodIn_r _ [524, 151, 444, 112, 772, 773, 774, 775, 776, 777, 778, 779, 780, 781, 782, 783, 784, 785, 786, 787, 788, 789, 790, 791, 792, 793, 794, 795, 796, 797, 798, 799, 800, 801, 802] (by decide +kernel) (by decide +kernel)
set_option maxRecDepth 20000 in
theorem gL_law_X7_packed : GoodIn wsL_law (wsV RL 49 RX7 yX7_packed wsX7_packed) := goodIn_app (goodIn_of _ (by decide +kernel)) ggL_law_X7_packed
set_option maxRecDepth 20000 in
theorem ggL_law_X6_load : GoodIn wsL_law wsX6_load := goodIn_r _ [528, 17, 120, 121, 122, 15, 123, 50, 52, 124, 125, 126, 127, 51, 49, 128, 129, 130, 131, 132, 133, 134, 135, 136, 137, 138, 139, 140, 141, 37, 142, 143, 144, 145, 146, 756, 757, 758, 759, 760, 761, 762, 763, 764, 765, 766, 767, 768, 769, 770, 771, 803, 804, 805, 806] (by decide +kernel) (by decide +kernel)
set_option maxRecDepth 20000 in
theorem gL_law_X6_load : GoodIn wsL_law (wsV RL 50 RX6 yX6_load wsX6_load) := goodIn_app (goodIn_of _ (by decide +kernel)) ggL_law_X6_load
set_option maxRecDepth 20000 in
theorem ggL_law_X7_load : GoodIn wsL_law wsX7_load := goodIn_r _ [532, 151, 533, 114, 772, 773, 774, 775, 776, 777, 778, 779, 780, 781, 782, 783, 784, 785, 786, 787, 788, 789, 790, 791, 792, 793, 794, 795, 796, 797, 798, 799, 800, 801, 802] (by decide +kernel) (by decide +kernel)
set_option maxRecDepth 20000 in
theorem gL_law_X7_load : GoodIn wsL_law (wsV RL 53 RX7 yX7_load wsX7_load) := goodIn_app (goodIn_of _ (by decide +kernel)) ggL_law_X7_load
