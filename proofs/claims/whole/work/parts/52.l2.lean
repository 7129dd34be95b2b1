set_option maxRecDepth 20000 in
theorem ggL_law_X6_loop : GoodIn wsL_law wsX6_loop := goodIn_r _ [537, 17, 18, 273, 433, 434, 435, 15, 436, 50, 49, 161, 162, 163, 164, 51, 124, 125, 126, 127, 52, 128, 129, 130, 131, 132, 133, 134, 135, 136, 137, 138, 139, 140, 141, 37, 142, 143, 144, 145, 146, 756, 757, 758, 759, 760, 761, 762, 763, 764, 765, 766, 767, 768, 769, 770, 771, 803, 804, 805, 806] (by decide +kernel) (by decide +kernel)
set_option maxRecDepth 20000 in
theorem gL_law_X6_loop : GoodIn wsL_law (wsV RL 54 RX6 yX6_loop wsX6_loop) := goodIn_app (goodIn_of _ (by decide +kernel)) ggL_law_X6_loop
set_option maxRecDepth 20000 in
theorem ggL_law_X7_loop : GoodIn wsL_law wsX7_loop := goodIn_r _ [541, 151, 444, 533, 114, 112, 772, 773, 774, 775, 776, 777, 778, 779, 780, 781, 782, 783, 784, 785, 786, 787, 788, 789, 790, 791, 792, 793, 794, 795, 796, 797, 798, 799, 800, 801, 802] (by decide +kernel) (by decide +kernel)
set_option maxRecDepth 20000 in
theorem gL_law_X7_loop : GoodIn wsL_law (wsV RL 57 RX7 yX7_loop wsX7_loop) := goodIn_app (goodIn_of _ (by decide +kernel)) ggL_law_X7_loop
set_option maxRecDepth 20000 in
theorem ggL_law_X6_unpack : GoodIn wsL_law wsX6_unpack := goodIn_r _ [545, 39, 36, 28, 17, 546, 177, 42, 23, 547, 44, 548, 549, 550, 35, 551, 87, 88, 85, 91, 89, 552, 553, 217, 218, 21, 219, 57, 554, 280, 281, 26, 282, 66, 65, 67, 68, 555, 518, 519, 15, 520, 50, 49, 556, 557, 558, 559, 560, 561, 562, 563, 564, 565, 566, 230, 231, 232, 233, 234, 235, 236, 237, 238, 239, 240, 241, 242, 243, 244, 245, 246, 247, 176, 248, 186, 187, 567, 179, 180, 181, 59, 568, 569, 570, 571, 572, 573, 574, 575, 576, 315, 316, 317, 69, 312, 318, 294, 295, 296, 577, 190, 191, 192, 578, 579, 580, 581, 582, 175, 583, 584, 585, 586, 587, 588, 589, 590, 591, 86, 592, 593, 594, 595, 596, 479, 480, 332, 481, 338, 339, 340, 341, 342, 343, 344, 482, 483, 355, 484, 485, 486, 487, 386, 488, 489, 389, 490, 491, 492, 369, 493, 494, 495, 496, 380, 381, 382, 497, 394, 395, 396, 397, 398, 399, 597, 133, 134, 135, 136, 137, 138, 139, 140, 141, 37, 142, 129, 130, 131, 143, 144, 145, 146, 598, 599, 600, 601, 602, 603, 604, 605, 606, 607, 608, 609, 610, 611, 612, 183, 184, 185, 11, 12, 188, 613, 430, 431, 432, 614, 162, 163, 164, 51, 615, 616, 617, 618, 619, 620, 437, 756, 757, 758, 759, 760, 761, 762, 763, 764, 765, 766, 767, 768, 769, 770, 771, 816, 817, 818, 819, 820, 821, 807, 808, 803, 804, 805, 806, 809, 810, 811, 812, 813, 822, 823, 824] (by decide +kernel) (by decide +kernel)
set_option maxRecDepth 20000 in
theorem gL_law_X6_unpack : GoodIn wsL_law (wsV RL 58 RX6 yX6_unpack wsX6_unpack) := goodIn_app (goodIn_of _ (by decide +kernel)) ggL_law_X6_unpack
set_option maxRecDepth 20000 in
theorem ggL_law_X7_unpack : GoodIn wsL_law wsX7_unpack := goodIn_r _ [624, 151, 106, 107, 108, 109, 198, 625, 626, 627, 533, 115, 628, 211, 103, 629, 630, 631, 5, 632, 114, 633, 634, 635, 636, 637, 638, 639, 640, 641, 253, 254, 255, 256, 257, 258, 259, 260, 261, 262, 263, 264, 101, 642, 643, 644, 645, 461, 462, 463, 464, 197, 646, 647, 648, 649, 100, 650, 651, 652, 653, 654, 655, 656, 657, 658, 659, 660, 661, 478, 479, 480, 332, 481, 338, 339, 340, 341, 342, 343, 344, 482, 483, 355, 484, 485, 486, 487, 386, 488, 489, 389, 490, 491, 492, 369, 493, 494, 495, 496, 380, 381, 382, 497, 394, 395, 396, 397, 398, 399, 509, 510, 511, 512, 505, 506, 507, 508, 772, 773, 774, 775, 776, 777, 778, 779, 780, 781, 782, 783, 784, 785, 786, 787, 788, 789, 790, 791, 792, 793, 794, 795, 796, 797, 798, 799, 800, 801, 802] (by decide +kernel) (by decide +kernel)
set_option maxRecDepth 20000 in
theorem gL_law_X7_unpack : GoodIn wsL_law (wsV RL 61 RX7 yX7_unpack wsX7_unpack) := goodIn_app (goodIn_of _ (by decide +kernel)) ggL_law_X7_unpack
set_option maxRecDepth 20000 in
theorem ggL_law_X6_place : GoodIn wsL_law wsX6_place := goodIn_r _ [665, 42, 756, 757, 758, 759, 760, 761, 762, 763, 764, 765, 766, 767, 768, 769, 770, 771] (by decide +kernel) (by decide +kernel)
set_option maxRecDepth 20000 in
theorem gL_law_X6_place : GoodIn wsL_law (wsV RL 62 RX6 yX6_place wsX6_place) := goodIn_app (goodIn_of _ (by decide +kernel)) ggL_law_X6_place
set_option maxRecDepth 20000 in
theorem ggL_law_X7_place : GoodIn wsL_law wsX7_place := goodIn_r _ [669, 151, 115, 772, 773, 774, 775, 776, 777, 778, 779, 780, 781, 782, 783, 784, 785, 786, 787, 788, 789, 790, 791, 792, 793, 794, 795, 796, 797, 798, 799, 800, 801, 802] (by decide +kernel) (by decide +kernel)
set_option maxRecDepth 20000 in
theorem gL_law_X7_place : GoodIn wsL_law (wsV RL 65 RX7 yX7_place wsX7_place) := goodIn_app (goodIn_of _ (by decide +kernel)) ggL_law_X7_place
set_option maxRecDepth 20000 in
theorem ggL_law_X6_about : GoodIn wsL_law wsX6_about := goodIn_r _ [673, 23, 674, 675, 676, 293, 294, 295, 21, 296, 57, 59, 756, 757, 758, 759, 760, 761, 762, 763, 764, 765, 766, 767, 768, 769, 770, 771, 822, 823, 824, 807, 808] (by decide +kernel) (by decide +kernel)
set_option maxRecDepth 20000 in
theorem gL_law_X6_about : GoodIn wsL_law (wsV RL 66 RX6 yX6_about wsX6_about) := goodIn_app (goodIn_of _ (by decide +kernel)) ggL_law_X6_about
set_option maxRecDepth 20000 in
theorem ggL_law_X7_about : GoodIn wsL_law wsX7_about := goodIn_r _ [680, 151, 211, 101, 103, 772, 773, 774, 775, 776, 777, 778, 779, 780, 781, 782, 783, 784, 785, 786, 787, 788, 789, 790, 791, 792, 793, 794, 795, 796, 797, 798, 799, 800, 801, 802] (by decide +kernel) (by decide +kernel)
set_option maxRecDepth 20000 in
theorem gL_law_X7_about : GoodIn wsL_law (wsV RL 70 RX7 yX7_about wsX7_about) := goodIn_app (goodIn_of _ (by decide +kernel)) ggL_law_X7_about
set_option maxRecDepth 20000 in
theorem ggL_law_X6_byteOf : GoodIn wsL_law wsX6_byteOf := goodIn_r _ [684, 23, 293, 294, 295, 21, 296, 57, 59, 685, 686, 2, 687, 674, 675, 756, 757, 758, 759, 760, 761, 762, 763, 764, 765, 766, 767, 768, 769, 770, 771, 807, 808, 822, 823, 824] (by decide +kernel) (by decide +kernel)
set_option maxRecDepth 20000 in
theorem gL_law_X6_byteOf : GoodIn wsL_law (wsV RL 71 RX6 yX6_byteOf wsX6_byteOf) := goodIn_app (goodIn_of _ (by decide +kernel)) ggL_law_X6_byteOf
set_option maxRecDepth 20000 in
theorem ggL_law_X7_byteOf : GoodIn wsL_law wsX7_byteOf := goodIn_r _ [691, 151, 211, 692, 693, 694, 5, 695, 101, 100, 772, 773, 774, 775, 776, 777, 778, 779, 780, 781, 782, 783, 784, 785, 786, 787, 788, 789, 790, 791, 792, 793, 794, 795, 796, 797, 798, 799, 800, 801, 802] (by decide +kernel) (by decide +kernel)
set_option maxRecDepth 20000 in
theorem gL_law_X7_byteOf : GoodIn wsL_law (wsV RL 75 RX7 yX7_byteOf wsX7_byteOf) := goodIn_app (goodIn_of _ (by decide +kernel)) ggL_law_X7_byteOf
set_option maxRecDepth 20000 in
theorem ggL_law_X6_table : GoodIn wsL_law wsX6_table := goodIn_r _ [699, 700, 701, 272, 702, 703, 704, 2, 705, 27, 28, 809, 810, 811, 812, 813, 756, 757, 758, 759, 760, 761, 762, 763, 764, 765, 766, 767, 768, 769, 770, 771] (by decide +kernel) (by decide +kernel)
set_option maxRecDepth 20000 in
theorem gL_law_X6_table : GoodIn wsL_law (wsV RL 76 RX6 yX6_table wsX6_table) := goodIn_app (goodIn_of _ (by decide +kernel)) ggL_law_X6_table
set_option maxRecDepth 20000 in
theorem ggL_law_X7_table : GoodIn wsL_law wsX7_table := goodIn_r _ [709, 151, 107, 108, 109, 772, 773, 774, 775, 776, 777, 778, 779, 780, 781, 782, 783, 784, 785, 786, 787, 788, 789, 790, 791, 792, 793, 794, 795, 796, 797, 798, 799, 800, 801, 802] (by decide +kernel) (by decide +kernel)
set_option maxRecDepth 20000 in
theorem gL_law_X7_table : GoodIn wsL_law (wsV RL 79 RX7 yX7_table wsX7_table) := goodIn_app (goodIn_of _ (by decide +kernel)) ggL_law_X7_table
set_option maxRecDepth 20000 in
theorem ggL_law_X6_entry : GoodIn wsL_law wsX6_entry := goodIn_r _ [713, 714, 715, 716, 2, 717, 702, 703, 704, 705, 27, 28, 718, 242, 243, 26, 244, 66, 65, 719, 246, 247, 176, 248, 186, 187, 756, 757, 758, 759, 760, 761, 762, 763, 764, 765, 766, 767, 768, 769, 770, 771, 809, 810, 811, 812, 813, 822, 823, 824] (by decide +kernel) (by decide +kernel)
set_option maxRecDepth 20000 in
theorem gL_law_X6_entry : GoodIn wsL_law (wsV RL 80 RX6 yX6_entry wsX6_entry) := goodIn_app (goodIn_of _ (by decide +kernel)) ggL_law_X6_entry
set_option maxRecDepth 20000 in
theorem ggL_law_X7_entry : GoodIn wsL_law wsX7_entry := goodIn_r _ [723, 151, 724, 725, 726, 5, 727, 107, 257, 258, 259, 260, 106, 261, 262, 263, 264, 101, 772, 773, 774, 775, 776, 777, 778, 779, 780, 781, 782, 783, 784, 785, 786, 787, 788, 789, 790, 791, 792, 793, 794, 795, 796, 797, 798, 799, 800, 801, 802] (by decide +kernel) (by decide +kernel)
set_option maxRecDepth 20000 in
theorem gL_law_X7_entry : GoodIn wsL_law (wsV RL 83 RX7 yX7_entry wsX7_entry) := goodIn_app (goodIn_of _ (by decide +kernel)) ggL_law_X7_entry
set_option maxRecDepth 20000 in
theorem ggL_law_X6_entryByte : GoodIn wsL_law wsX6_entryByte := goodIn_r _ [731, 714, 715, 716, 2, 717, 702, 703, 704, 705, 27, 28, 718, 242, 243, 26, 244, 66, 65, 685, 686, 687, 674, 675, 756, 757, 758, 759, 760, 761, 762, 763, 764, 765, 766, 767, 768, 769, 770, 771, 809, 810, 811, 812, 813, 822, 823, 824] (by decide +kernel) (by decide +kernel)
set_option maxRecDepth 20000 in
theorem gL_law_X6_entryByte : GoodIn wsL_law (wsV RL 84 RX6 yX6_entryByte wsX6_entryByte) := goodIn_app (goodIn_of _ (by decide +kernel)) ggL_law_X6_entryByte
set_option maxRecDepth 20000 in
theorem ggL_law_X7_entryByte : GoodIn wsL_law wsX7_entryByte := goodIn_r _ [735, 151, 724, 725, 726, 5, 727, 107, 257, 258, 259, 260, 106, 692, 693, 694, 695, 101, 100, 772, 773, 774, 775, 776, 777, 778, 779, 780, 781, 782, 783, 784, 785, 786, 787, 788, 789, 790, 791, 792, 793, 794, 795, 796, 797, 798, 799, 800, 801, 802] (by decide +kernel) (by decide +kernel)
set_option maxRecDepth 20000 in
theorem gL_law_X7_entryByte : GoodIn wsL_law (wsV RL 88 RX7 yX7_entryByte wsX7_entryByte) := goodIn_app (goodIn_of _ (by decide +kernel)) ggL_law_X7_entryByte
set_option maxRecDepth 20000 in
theorem ggL_law_X6_count : GoodIn wsL_law wsX6_count := goodIn_r _ [739, 23, 177, 22, 16, 273, 17, 18, 43, 44, 756, 757, 758, 759, 760, 761, 762, 763, 764, 765, 766, 767, 768, 769, 770, 771, 807, 808, 803, 804, 805, 806] (by decide +kernel) (by decide +kernel)
set_option maxRecDepth 20000 in
theorem gL_law_X6_count : GoodIn wsL_law (wsV RL 89 RX6 yX6_count wsX6_count) := goodIn_app (goodIn_of _ (by decide +kernel)) ggL_law_X6_count
set_option maxRecDepth 20000 in
theorem ggL_law_X7_count : GoodIn wsL_law wsX7_count := goodIn_r _ [743, 151, 211, 197, 152, 533, 444, 443, 628, 772, 773, 774, 775, 776, 777, 778, 779, 780, 781, 782, 783, 784, 785, 786, 787, 788, 789, 790, 791, 792, 793, 794, 795, 796, 797, 798, 799, 800, 801, 802] (by decide +kernel) (by decide +kernel)
set_option maxRecDepth 20000 in
theorem gL_law_X7_count : GoodIn wsL_law (wsV RL 92 RX7 yX7_count wsX7_count) := goodIn_app (goodIn_of _ (by decide +kernel)) ggL_law_X7_count
set_option maxRecDepth 20000 in
theorem ggL_law_X6_check : GoodIn wsL_law wsX6_check := goodIn_r _ [747, 27, 28, 748, 749, 750, 26, 751, 66, 67, 68, 237, 238, 239, 240, 241, 242, 243, 244, 65, 245, 246, 247, 176, 248, 186, 187, 756, 757, 758, 759, 760, 761, 762, 763, 764, 765, 766, 767, 768, 769, 770, 771, 809, 810, 811, 812, 813, 822, 823, 824] (by decide +kernel) (by decide +kernel)
set_option maxRecDepth 20000 in
theorem gL_law_X6_check : GoodIn wsL_law (wsV RL 93 RX6 yX6_check wsX6_check) := goodIn_app (goodIn_of _ (by decide +kernel)) ggL_law_X6_check
set_option maxRecDepth 20000 in
theorem ggL_law_X7_check : GoodIn wsL_law wsX7_check := goodIn_r _ [755, 151, 772, 773, 774, 775, 776, 777, 778, 779, 780, 781, 782, 783, 784, 785, 786, 787, 788, 789, 790, 791, 792, 793, 794, 795, 796, 797, 798, 799, 800, 801, 802] (by decide +kernel) (by decide +kernel)
set_option maxRecDepth 20000 in
theorem gL_law_X7_check : GoodIn wsL_law (wsV RL 96 RX7 yX7_check wsX7_check) := goodIn_app (goodIn_of _ (by decide +kernel)) ggL_law_X7_check
