set_option maxRecDepth 20000 in
theorem ggL_law_X6_loop : GoodIn wsL_law wsX6_loop := goodIn_r _ [533, 17, 18, 265, 429, 430, 431, 15, 432, 50, 49, 161, 162, 163, 164, 51, 124, 125, 126, 127, 52, 128, 129, 130, 131, 132, 133, 134, 135, 136, 137, 138, 139, 140, 141, 37, 142, 143, 144, 145, 146, 752, 753, 754, 755, 756, 757, 758, 759, 760, 761, 762, 763, 764, 765, 766, 767, 799, 800, 801, 802] (by decide +kernel) (by decide +kernel)
set_option maxRecDepth 20000 in
theorem gL_law_X6_loop : GoodIn wsL_law (wsV RL 54 RX6 yX6_loop wsX6_loop) := goodIn_app (goodIn_of _ (by decide +kernel)) ggL_law_X6_loop
set_option maxRecDepth 20000 in
theorem ggL_law_X7_loop : GoodIn wsL_law wsX7_loop := goodIn_r _ [537, 151, 440, 529, 114, 112, 768, 769, 770, 771, 772, 773, 774, 775, 776, 777, 778, 779, 780, 781, 782, 783, 784, 785, 786, 787, 788, 789, 790, 791, 792, 793, 794, 795, 796, 797, 798] (by decide +kernel) (by decide +kernel)
set_option maxRecDepth 20000 in
theorem gL_law_X7_loop : GoodIn wsL_law (wsV RL 57 RX7 yX7_loop wsX7_loop) := goodIn_app (goodIn_of _ (by decide +kernel)) ggL_law_X7_loop
set_option maxRecDepth 20000 in
theorem ggL_law_X6_unpack : GoodIn wsL_law wsX6_unpack := goodIn_r _ [541, 39, 36, 28, 17, 542, 177, 42, 23, 543, 44, 544, 545, 546, 35, 547, 87, 88, 85, 91, 89, 548, 549, 217, 218, 21, 219, 57, 550, 272, 273, 26, 274, 66, 65, 67, 68, 551, 514, 515, 15, 516, 50, 49, 552, 553, 554, 555, 556, 557, 558, 559, 560, 561, 562, 230, 231, 232, 233, 234, 235, 236, 237, 238, 239, 176, 240, 186, 187, 563, 179, 180, 181, 59, 564, 565, 566, 567, 568, 569, 570, 571, 572, 307, 308, 309, 69, 304, 310, 286, 287, 288, 311, 312, 313, 314, 573, 190, 191, 192, 574, 575, 576, 577, 578, 175, 579, 580, 581, 582, 583, 584, 585, 586, 587, 86, 588, 589, 590, 591, 592, 475, 476, 328, 477, 334, 335, 336, 337, 338, 339, 340, 478, 479, 351, 480, 481, 482, 483, 382, 484, 485, 385, 486, 487, 488, 365, 489, 490, 491, 492, 376, 377, 378, 493, 390, 391, 392, 393, 394, 395, 593, 133, 134, 135, 136, 137, 138, 139, 140, 141, 37, 142, 129, 130, 131, 143, 144, 145, 146, 594, 595, 596, 597, 598, 599, 600, 601, 602, 603, 604, 605, 606, 607, 608, 183, 184, 185, 11, 12, 188, 609, 426, 427, 428, 610, 162, 163, 164, 51, 611, 612, 613, 614, 615, 616, 433, 752, 753, 754, 755, 756, 757, 758, 759, 760, 761, 762, 763, 764, 765, 766, 767, 812, 813, 814, 815, 816, 817, 803, 804, 799, 800, 801, 802, 805, 806, 807, 808, 809, 818, 819, 820] (by decide +kernel) (by decide +kernel)
set_option maxRecDepth 20000 in
theorem gL_law_X6_unpack : GoodIn wsL_law (wsV RL 58 RX6 yX6_unpack wsX6_unpack) := goodIn_app (goodIn_of _ (by decide +kernel)) ggL_law_X6_unpack
set_option maxRecDepth 20000 in
theorem ggL_law_X7_unpack : GoodIn wsL_law wsX7_unpack := goodIn_r _ [620, 151, 106, 107, 108, 109, 198, 621, 622, 623, 529, 115, 624, 211, 103, 625, 626, 627, 5, 628, 114, 629, 630, 631, 632, 633, 634, 635, 636, 637, 245, 246, 247, 248, 249, 250, 251, 252, 253, 254, 255, 256, 101, 638, 639, 640, 641, 457, 458, 459, 460, 197, 642, 643, 644, 645, 100, 646, 647, 648, 649, 650, 651, 652, 653, 654, 655, 656, 657, 474, 475, 476, 328, 477, 334, 335, 336, 337, 338, 339, 340, 478, 479, 351, 480, 481, 482, 483, 382, 484, 485, 385, 486, 487, 488, 365, 489, 490, 491, 492, 376, 377, 378, 493, 390, 391, 392, 393, 394, 395, 505, 506, 507, 508, 501, 502, 503, 504, 768, 769, 770, 771, 772, 773, 774, 775, 776, 777, 778, 779, 780, 781, 782, 783, 784, 785, 786, 787, 788, 789, 790, 791, 792, 793, 794, 795, 796, 797, 798] (by decide +kernel) (by decide +kernel)
set_option maxRecDepth 20000 in
theorem gL_law_X7_unpack : GoodIn wsL_law (wsV RL 61 RX7 yX7_unpack wsX7_unpack) := goodIn_app (goodIn_of _ (by decide +kernel)) ggL_law_X7_unpack
set_option maxRecDepth 20000 in
theorem ggL_law_X6_place : GoodIn wsL_law wsX6_place := goodIn_r _ [661, 42, 752, 753, 754, 755, 756, 757, 758, 759, 760, 761, 762, 763, 764, 765, 766, 767] (by decide +kernel) (by decide +kernel)
set_option maxRecDepth 20000 in
theorem gL_law_X6_place : GoodIn wsL_law (wsV RL 62 RX6 yX6_place wsX6_place) := goodIn_app (goodIn_of _ (by decide +kernel)) ggL_law_X6_place
set_option maxRecDepth 20000 in
theorem ggL_law_X7_place : GoodIn wsL_law wsX7_place := goodIn_r _ [665, 151, 115, 768, 769, 770, 771, 772, 773, 774, 775, 776, 777, 778, 779, 780, 781, 782, 783, 784, 785, 786, 787, 788, 789, 790, 791, 792, 793, 794, 795, 796, 797, 798] (by decide +kernel) (by decide +kernel)
set_option maxRecDepth 20000 in
theorem gL_law_X7_place : GoodIn wsL_law (wsV RL 65 RX7 yX7_place wsX7_place) := goodIn_app (goodIn_of _ (by decide +kernel)) ggL_law_X7_place
set_option maxRecDepth 20000 in
theorem ggL_law_X6_about : GoodIn wsL_law wsX6_about := goodIn_r _ [669, 23, 670, 671, 672, 285, 286, 287, 21, 288, 57, 59, 752, 753, 754, 755, 756, 757, 758, 759, 760, 761, 762, 763, 764, 765, 766, 767, 818, 819, 820, 803, 804] (by decide +kernel) (by decide +kernel)
set_option maxRecDepth 20000 in
theorem gL_law_X6_about : GoodIn wsL_law (wsV RL 66 RX6 yX6_about wsX6_about) := goodIn_app (goodIn_of _ (by decide +kernel)) ggL_law_X6_about
set_option maxRecDepth 20000 in
theorem ggL_law_X7_about : GoodIn wsL_law wsX7_about := goodIn_r _ [676, 151, 211, 101, 103, 768, 769, 770, 771, 772, 773, 774, 775, 776, 777, 778, 779, 780, 781, 782, 783, 784, 785, 786, 787, 788, 789, 790, 791, 792, 793, 794, 795, 796, 797, 798] (by decide +kernel) (by decide +kernel)
set_option maxRecDepth 20000 in
theorem gL_law_X7_about : GoodIn wsL_law (wsV RL 70 RX7 yX7_about wsX7_about) := goodIn_app (goodIn_of _ (by decide +kernel)) ggL_law_X7_about
set_option maxRecDepth 20000 in
theorem ggL_law_X6_byteOf : GoodIn wsL_law wsX6_byteOf := goodIn_r _ [680, 23, 285, 286, 287, 21, 288, 57, 59, 681, 682, 2, 683, 670, 671, 752, 753, 754, 755, 756, 757, 758, 759, 760, 761, 762, 763, 764, 765, 766, 767, 803, 804, 818, 819, 820] (by decide +kernel) (by decide +kernel)
set_option maxRecDepth 20000 in
theorem gL_law_X6_byteOf : GoodIn wsL_law (wsV RL 71 RX6 yX6_byteOf wsX6_byteOf) := goodIn_app (goodIn_of _ (by decide +kernel)) ggL_law_X6_byteOf
set_option maxRecDepth 20000 in
theorem ggL_law_X7_byteOf : GoodIn wsL_law wsX7_byteOf := goodIn_r _ [687, 151, 211, 688, 689, 690, 5, 691, 101, 100, 768, 769, 770, 771, 772, 773, 774, 775, 776, 777, 778, 779, 780, 781, 782, 783, 784, 785, 786, 787, 788, 789, 790, 791, 792, 793, 794, 795, 796, 797, 798] (by decide +kernel) (by decide +kernel)
set_option maxRecDepth 20000 in
theorem gL_law_X7_byteOf : GoodIn wsL_law (wsV RL 75 RX7 yX7_byteOf wsX7_byteOf) := goodIn_app (goodIn_of _ (by decide +kernel)) ggL_law_X7_byteOf
set_option maxRecDepth 20000 in
theorem ggL_law_X6_table : GoodIn wsL_law wsX6_table := goodIn_r _ [695, 696, 697, 264, 698, 699, 700, 2, 701, 27, 28, 805, 806, 807, 808, 809, 752, 753, 754, 755, 756, 757, 758, 759, 760, 761, 762, 763, 764, 765, 766, 767] (by decide +kernel) (by decide +kernel)
set_option maxRecDepth 20000 in
theorem gL_law_X6_table : GoodIn wsL_law (wsV RL 76 RX6 yX6_table wsX6_table) := goodIn_app (goodIn_of _ (by decide +kernel)) ggL_law_X6_table
set_option maxRecDepth 20000 in
theorem ggL_law_X7_table : GoodIn wsL_law wsX7_table := goodIn_r _ [705, 151, 107, 108, 109, 768, 769, 770, 771, 772, 773, 774, 775, 776, 777, 778, 779, 780, 781, 782, 783, 784, 785, 786, 787, 788, 789, 790, 791, 792, 793, 794, 795, 796, 797, 798] (by decide +kernel) (by decide +kernel)
set_option maxRecDepth 20000 in
theorem gL_law_X7_table : GoodIn wsL_law (wsV RL 79 RX7 yX7_table wsX7_table) := goodIn_app (goodIn_of _ (by decide +kernel)) ggL_law_X7_table
set_option maxRecDepth 20000 in
theorem ggL_law_X6_entry : GoodIn wsL_law wsX6_entry := goodIn_r _ [709, 710, 711, 712, 2, 713, 698, 699, 700, 701, 27, 28, 714, 312, 313, 26, 314, 66, 65, 715, 238, 239, 176, 240, 186, 187, 752, 753, 754, 755, 756, 757, 758, 759, 760, 761, 762, 763, 764, 765, 766, 767, 805, 806, 807, 808, 809, 818, 819, 820] (by decide +kernel) (by decide +kernel)
set_option maxRecDepth 20000 in
theorem gL_law_X6_entry : GoodIn wsL_law (wsV RL 80 RX6 yX6_entry wsX6_entry) := goodIn_app (goodIn_of _ (by decide +kernel)) ggL_law_X6_entry
set_option maxRecDepth 20000 in
theorem ggL_law_X7_entry : GoodIn wsL_law wsX7_entry := goodIn_r _ [719, 151, 720, 721, 722, 5, 723, 107, 249, 250, 251, 252, 106, 253, 254, 255, 256, 101, 768, 769, 770, 771, 772, 773, 774, 775, 776, 777, 778, 779, 780, 781, 782, 783, 784, 785, 786, 787, 788, 789, 790, 791, 792, 793, 794, 795, 796, 797, 798] (by decide +kernel) (by decide +kernel)
set_option maxRecDepth 20000 in
theorem gL_law_X7_entry : GoodIn wsL_law (wsV RL 83 RX7 yX7_entry wsX7_entry) := goodIn_app (goodIn_of _ (by decide +kernel)) ggL_law_X7_entry
set_option maxRecDepth 20000 in
theorem ggL_law_X6_entryByte : GoodIn wsL_law wsX6_entryByte := goodIn_r _ [727, 710, 711, 712, 2, 713, 698, 699, 700, 701, 27, 28, 714, 312, 313, 26, 314, 66, 65, 681, 682, 683, 670, 671, 752, 753, 754, 755, 756, 757, 758, 759, 760, 761, 762, 763, 764, 765, 766, 767, 805, 806, 807, 808, 809, 818, 819, 820] (by decide +kernel) (by decide +kernel)
set_option maxRecDepth 20000 in
theorem gL_law_X6_entryByte : GoodIn wsL_law (wsV RL 84 RX6 yX6_entryByte wsX6_entryByte) := goodIn_app (goodIn_of _ (by decide +kernel)) ggL_law_X6_entryByte
set_option maxRecDepth 20000 in
theorem ggL_law_X7_entryByte : GoodIn wsL_law wsX7_entryByte := goodIn_r _ [731, 151, 720, 721, 722, 5, 723, 107, 249, 250, 251, 252, 106, 688, 689, 690, 691, 101, 100, 768, 769, 770, 771, 772, 773, 774, 775, 776, 777, 778, 779, 780, 781, 782, 783, 784, 785, 786, 787, 788, 789, 790, 791, 792, 793, 794, 795, 796, 797, 798] (by decide +kernel) (by decide +kernel)
set_option maxRecDepth 20000 in
theorem gL_law_X7_entryByte : GoodIn wsL_law (wsV RL 88 RX7 yX7_entryByte wsX7_entryByte) := goodIn_app (goodIn_of _ (by decide +kernel)) ggL_law_X7_entryByte
set_option maxRecDepth 20000 in
theorem ggL_law_X6_count : GoodIn wsL_law wsX6_count := goodIn_r _ [735, 23, 177, 22, 16, 265, 17, 18, 43, 44, 752, 753, 754, 755, 756, 757, 758, 759, 760, 761, 762, 763, 764, 765, 766, 767, 803, 804, 799, 800, 801, 802] (by decide +kernel) (by decide +kernel)
set_option maxRecDepth 20000 in
theorem gL_law_X6_count : GoodIn wsL_law (wsV RL 89 RX6 yX6_count wsX6_count) := goodIn_app (goodIn_of _ (by decide +kernel)) ggL_law_X6_count
set_option maxRecDepth 20000 in
theorem ggL_law_X7_count : GoodIn wsL_law wsX7_count := goodIn_r _ [739, 151, 211, 197, 152, 529, 440, 439, 624, 768, 769, 770, 771, 772, 773, 774, 775, 776, 777, 778, 779, 780, 781, 782, 783, 784, 785, 786, 787, 788, 789, 790, 791, 792, 793, 794, 795, 796, 797, 798] (by decide +kernel) (by decide +kernel)
set_option maxRecDepth 20000 in
theorem gL_law_X7_count : GoodIn wsL_law (wsV RL 92 RX7 yX7_count wsX7_count) := goodIn_app (goodIn_of _ (by decide +kernel)) ggL_law_X7_count
set_option maxRecDepth 20000 in
theorem ggL_law_X6_check : GoodIn wsL_law wsX6_check := goodIn_r _ [743, 27, 28, 744, 745, 746, 26, 747, 66, 65, 67, 68, 237, 238, 239, 176, 240, 186, 187, 752, 753, 754, 755, 756, 757, 758, 759, 760, 761, 762, 763, 764, 765, 766, 767, 805, 806, 807, 808, 809, 818, 819, 820] (by decide +kernel) (by decide +kernel)
set_option maxRecDepth 20000 in
theorem gL_law_X6_check : GoodIn wsL_law (wsV RL 93 RX6 yX6_check wsX6_check) := goodIn_app (goodIn_of _ (by decide +kernel)) ggL_law_X6_check
set_option maxRecDepth 20000 in
theorem ggL_law_X7_check : GoodIn wsL_law wsX7_check := goodIn_r _ [751, 151, 768, 769, 770, 771, 772, 773, 774, 775, 776, 777, 778, 779, 780, 781, 782, 783, 784, 785, 786, 787, 788, 789, 790, 791, 792, 793, 794, 795, 796, 797, 798] (by decide +kernel) (by decide +kernel)
set_option maxRecDepth 20000 in
theorem gL_law_X7_check : GoodIn wsL_law (wsV RL 96 RX7 yX7_check wsX7_check) := goodIn_app (goodIn_of _ (by decide +kernel)) ggL_law_X7_check
