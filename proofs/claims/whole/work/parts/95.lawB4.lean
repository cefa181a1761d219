set_option maxRecDepth 20000 in
theorem ggL_law_X8_keys : GoodIn wsL_law wsX8_keys := goodIn_r _ [612, 195, 196, 197, 5, 198, 78, 149, 150, 151, 613, 614, 615, 616, 589, 590, 591, 592, 152, 153, 154, 155, 83, 868, 869, 870, 871, 872, 873, 874, 875, 876, 877, 878, 879, 880, 881, 882, 883, 884, 885] (by decide +kernel) (by decide +kernel)
set_option maxRecDepth 20000 in
theorem gL_law_X8_keys : GoodIn wsL_law (wsV RL 115 RX8 yX8_keys wsX8_keys) := goodIn_app (goodIn_of _ (by decide +kernel)) ggL_law_X8_keys
set_option maxRecDepth 20000 in
theorem ggL_law_X7_saved : GoodIn wsL_law wsX7_saved := goodIn_r _ [620, 15, 372, 186, 605, 606, 607, 2, 608, 543, 314, 228, 315, 572, 573, 574, 14, 575, 40, 584, 523, 126, 524, 144, 125, 127, 128, 129, 130, 131, 132, 133, 134, 135, 136, 525, 526, 527, 528, 529, 530, 124, 859, 860, 861, 862, 863, 864, 865, 866, 867, 886, 887, 888, 889, 890, 891, 892, 893, 894, 895] (by decide +kernel) (by decide +kernel)
set_option maxRecDepth 20000 in
theorem gL_law_X7_saved : GoodIn wsL_law (wsV RL 116 RX7 yX7_saved wsX7_saved) := goodIn_app (goodIn_of _ (by decide +kernel)) ggL_law_X7_saved
set_option maxRecDepth 20000 in
theorem ggL_law_X8_saved : GoodIn wsL_law wsX8_saved := goodIn_r _ [624, 78, 613, 614, 615, 5, 616, 589, 590, 591, 592, 868, 869, 870, 871, 872, 873, 874, 875, 876, 877, 878, 879, 880, 881, 882, 883, 884, 885] (by decide +kernel) (by decide +kernel)
set_option maxRecDepth 20000 in
theorem gL_law_X8_saved : GoodIn wsL_law (wsV RL 119 RX8 yX8_saved wsX8_saved) := goodIn_app (goodIn_of _ (by decide +kernel)) ggL_law_X8_saved
set_option maxRecDepth 20000 in
theorem ggL_law_X7_twins : GoodIn wsL_law wsX7_twins := goodIn_r _ [628, 15, 629, 372, 187, 188, 189, 14, 190, 44, 37, 120, 121, 122, 2, 123, 30, 859, 860, 861, 862, 863, 864, 865, 866, 867, 886, 887, 888, 889, 890, 891, 892, 893, 894, 895] (by decide +kernel) (by decide +kernel)
set_option maxRecDepth 20000 in
theorem gL_law_X7_twins : GoodIn wsL_law (wsV RL 120 RX7 yX7_twins wsX7_twins) := goodIn_app (goodIn_of _ (by decide +kernel)) ggL_law_X7_twins
set_option maxRecDepth 20000 in
theorem ggL_law_X8_twins : GoodIn wsL_law wsX8_twins := goodIn_r _ [633, 78, 195, 196, 197, 5, 198, 149, 150, 151, 152, 153, 154, 155, 83, 868, 869, 870, 871, 872, 873, 874, 875, 876, 877, 878, 879, 880, 881, 882, 883, 884, 885] (by decide +kernel) (by decide +kernel)
set_option maxRecDepth 20000 in
theorem gL_law_X8_twins : GoodIn wsL_law (wsV RL 123 RX8 yX8_twins wsX8_twins) := goodIn_app (goodIn_of _ (by decide +kernel)) ggL_law_X8_twins
set_option maxRecDepth 20000 in
theorem ggL_law_X7_alike : GoodIn wsL_law wsX7_alike := goodIn_r _ [637, 15, 186, 187, 188, 189, 14, 190, 44, 37, 120, 121, 122, 2, 123, 30, 584, 523, 126, 524, 144, 125, 127, 128, 129, 130, 131, 132, 133, 134, 135, 136, 525, 526, 527, 528, 529, 530, 859, 860, 861, 862, 863, 864, 865, 866, 867, 886, 887, 888, 889, 890, 891, 892, 893, 894, 895] (by decide +kernel) (by decide +kernel)
set_option maxRecDepth 20000 in
theorem gL_law_X7_alike : GoodIn wsL_law (wsV RL 124 RX7 yX7_alike wsX7_alike) := goodIn_app (goodIn_of _ (by decide +kernel)) ggL_law_X7_alike
set_option maxRecDepth 20000 in
theorem ggL_law_X8_alike : GoodIn wsL_law wsX8_alike := goodIn_r _ [641, 195, 196, 197, 5, 198, 78, 149, 150, 151, 589, 590, 591, 592, 152, 153, 154, 155, 83, 868, 869, 870, 871, 872, 873, 874, 875, 876, 877, 878, 879, 880, 881, 882, 883, 884, 885] (by decide +kernel) (by decide +kernel)
set_option maxRecDepth 20000 in
theorem gL_law_X8_alike : GoodIn wsL_law (wsV RL 127 RX8 yX8_alike wsX8_alike) := goodIn_app (goodIn_of _ (by decide +kernel)) ggL_law_X8_alike
set_option maxRecDepth 20000 in
theorem ggL_law_X7_write : GoodIn wsL_law wsX7_write := goodIn_r _ [645, 27, 646, 117, 118, 2, 119, 120, 121, 122, 123, 30, 647, 648, 649, 26, 650, 66, 65, 137, 138, 139, 140, 32, 859, 860, 861, 862, 863, 864, 865, 866, 867, 902, 903, 904, 905, 906, 907, 908, 909, 910] (by decide +kernel) (by decide +kernel)
set_option maxRecDepth 20000 in
theorem gL_law_X7_write : GoodIn wsL_law (wsV RL 128 RX7 yX7_write wsX7_write) := goodIn_app (goodIn_of _ (by decide +kernel)) ggL_law_X7_write
set_option maxRecDepth 20000 in
theorem ggL_law_X8_write : GoodIn wsL_law wsX8_write := goodIn_r _ [654, 95, 82, 149, 150, 5, 151, 152, 153, 154, 155, 83, 156, 157, 158, 159, 868, 869, 870, 871, 872, 873, 874, 875, 876, 877, 878, 879, 880, 881, 882, 883, 884, 885] (by decide +kernel) (by decide +kernel)
set_option maxRecDepth 20000 in
theorem gL_law_X8_write : GoodIn wsL_law (wsV RL 131 RX8 yX8_write wsX8_write) := goodIn_app (goodIn_of _ (by decide +kernel)) ggL_law_X8_write
set_option maxRecDepth 20000 in
theorem ggL_law_X7_erase : GoodIn wsL_law wsX7_erase := goodIn_r _ [658, 27, 646, 108, 109, 110, 26, 111, 66, 859, 860, 861, 862, 863, 864, 865, 866, 867, 902, 903, 904, 905, 906, 907, 908, 909, 910] (by decide +kernel) (by decide +kernel)
set_option maxRecDepth 20000 in
theorem gL_law_X7_erase : GoodIn wsL_law (wsV RL 132 RX7 yX7_erase wsX7_erase) := goodIn_app (goodIn_of _ (by decide +kernel)) ggL_law_X7_erase
set_option maxRecDepth 20000 in
theorem ggL_law_X8_erase : GoodIn wsL_law wsX8_erase := goodIn_r _ [662, 95, 868, 869, 870, 871, 872, 873, 874, 875, 876, 877, 878, 879, 880, 881, 882, 883, 884, 885] (by decide +kernel) (by decide +kernel)
set_option maxRecDepth 20000 in
theorem gL_law_X8_erase : GoodIn wsL_law (wsV RL 135 RX8 yX8_erase wsX8_erase) := goodIn_app (goodIn_of _ (by decide +kernel)) ggL_law_X8_erase
set_option maxRecDepth 20000 in
theorem ggL_law_X7_runs : GoodIn wsL_law wsX7_runs := goodIn_r _ [666, 27, 19, 15, 667, 668, 669, 670, 671, 672, 673, 674, 26, 675, 71, 72, 73, 66, 676, 677, 678, 679, 67, 68, 69, 70, 680, 681, 682, 683, 684, 685, 686, 687, 688, 689, 690, 691, 65, 692, 693, 694, 695, 118, 2, 119, 696, 697, 698, 699, 700, 701, 702, 703, 704, 705, 706, 707, 708, 709, 710, 711, 712, 713, 714, 715, 716, 717, 718, 719, 720, 721, 722, 723, 724, 725, 726, 727, 728, 729, 730, 731, 732, 733, 734, 735, 736, 737, 738, 739, 740, 741, 742, 743, 744, 745, 746, 747, 748, 749, 750, 751, 752, 753, 754, 755, 756, 757, 758, 759, 760, 761, 762, 763, 142, 126, 143, 144, 125, 127, 128, 129, 130, 131, 132, 133, 134, 135, 136, 764, 765, 766, 767, 768, 769, 770, 771, 772, 773, 774, 775, 776, 777, 222, 223, 224, 18, 225, 53, 54, 55, 226, 227, 228, 229, 230, 231, 232, 14, 233, 44, 45, 46, 47, 234, 235, 236, 237, 37, 39, 40, 41, 42, 43, 778, 779, 780, 781, 301, 363, 405, 406, 407, 408, 214, 215, 216, 217, 218, 219, 220, 221, 238, 239, 240, 241, 242, 373, 374, 375, 376, 782, 783, 784, 785, 302, 296, 297, 298, 299, 29, 300, 303, 304, 305, 306, 307, 308, 309, 310, 311, 312, 313, 314, 315, 343, 344, 345, 346, 859, 860, 861, 862, 863, 864, 865, 866, 867, 902, 903, 904, 905, 906, 907, 908, 909, 910, 896, 897, 898, 886, 887, 888, 889, 890, 891, 892, 893, 894, 895] (by decide +kernel) (by decide +kernel)
set_option maxRecDepth 20000 in
theorem gL_law_X7_runs : GoodIn wsL_law (wsV RL 136 RX7 yX7_runs wsX7_runs) := goodIn_app (goodIn_of _ (by decide +kernel)) ggL_law_X7_runs
set_option maxRecDepth 20000 in
theorem ggL_law_X8_runs : GoodIn wsL_law wsX8_runs := goodIn_r _ [789, 790, 791, 792, 793, 794, 5, 795, 796, 797, 798, 799, 800, 95, 82, 801, 802, 803, 804, 805, 87, 86, 806, 807, 808, 809, 810, 811, 812, 813, 149, 150, 151, 814, 815, 816, 817, 818, 819, 820, 821, 822, 823, 824, 825, 199, 200, 201, 259, 260, 261, 262, 92, 80, 78, 826, 827, 828, 829, 247, 248, 249, 250, 251, 252, 253, 254, 255, 256, 257, 258, 263, 264, 265, 266, 320, 321, 322, 323, 93, 324, 325, 326, 327, 328, 329, 330, 381, 382, 383, 384, 868, 869, 870, 871, 872, 873, 874, 875, 876, 877, 878, 879, 880, 881, 882, 883, 884, 885] (by decide +kernel) (by decide +kernel)
set_option maxRecDepth 20000 in
theorem gL_law_X8_runs : GoodIn wsL_law (wsV RL 139 RX8 yX8_runs wsX8_runs) := goodIn_app (goodIn_of _ (by decide +kernel)) ggL_law_X8_runs
set_option maxRecDepth 20000 in
theorem ggL_law_X7_told : GoodIn wsL_law wsX7_told := goodIn_r _ [833, 117, 118, 2, 119, 834, 835, 836, 837, 15, 372, 838, 29, 301, 363, 28, 19, 432, 27, 646, 30, 31, 32, 124, 125, 126, 127, 128, 129, 130, 131, 132, 133, 134, 135, 136, 120, 121, 122, 123, 859, 860, 861, 862, 863, 864, 865, 866, 867, 886, 887, 888, 889, 890, 891, 892, 893, 894, 895, 896, 897, 898, 902, 903, 904, 905, 906, 907, 908, 909, 910] (by decide +kernel) (by decide +kernel)
set_option maxRecDepth 20000 in
theorem gL_law_X7_told : GoodIn wsL_law (wsV RL 140 RX7 yX7_told wsX7_told) := goodIn_app (goodIn_of _ (by decide +kernel)) ggL_law_X7_told
set_option maxRecDepth 20000 in
theorem ggL_law_X8_told : GoodIn wsL_law wsX8_told := goodIn_r _ [842, 78, 93, 94, 92, 95, 83, 255, 256, 257, 5, 258, 152, 153, 154, 155, 868, 869, 870, 871, 872, 873, 874, 875, 876, 877, 878, 879, 880, 881, 882, 883, 884, 885] (by decide +kernel) (by decide +kernel)
set_option maxRecDepth 20000 in
theorem gL_law_X8_told : GoodIn wsL_law (wsV RL 143 RX8 yX8_told wsX8_told) := goodIn_app (goodIn_of _ (by decide +kernel)) ggL_law_X8_told
set_option maxRecDepth 20000 in
theorem ggL_law_X7_digest : GoodIn wsL_law wsX7_digest := goodIn_r _ [846, 847, 848, 15, 372, 470, 186, 28, 834, 835, 836, 2, 837, 838, 29, 301, 363, 19, 432, 27, 646, 30, 31, 32, 124, 125, 126, 127, 128, 129, 130, 131, 132, 133, 134, 135, 136, 271, 272, 273, 14, 274, 40, 41, 39, 42, 43, 275, 849, 850, 851, 284, 285, 286, 287, 859, 860, 861, 862, 863, 864, 865, 866, 867, 886, 887, 888, 889, 890, 891, 892, 893, 894, 895, 896, 897, 898, 902, 903, 904, 905, 906, 907, 908, 909, 910] (by decide +kernel) (by decide +kernel)
set_option maxRecDepth 20000 in
theorem gL_law_X7_digest : GoodIn wsL_law (wsV RL 144 RX7 yX7_digest wsX7_digest) := goodIn_app (goodIn_of _ (by decide +kernel)) ggL_law_X7_digest
set_option maxRecDepth 20000 in
theorem ggL_law_X8_digest : GoodIn wsL_law wsX8_digest := goodIn_r _ [855, 856, 857, 78, 94, 81, 858, 840, 841, 5, 842, 93, 92, 95, 83, 255, 256, 257, 258, 152, 153, 154, 155, 868, 869, 870, 871, 872, 873, 874, 875, 876, 877, 878, 879, 880, 881, 882, 883, 884, 885] (by decide +kernel) (by decide +kernel)
set_option maxRecDepth 20000 in
theorem gL_law_X8_digest : GoodIn wsL_law (wsV RL 148 RX8 yX8_digest wsX8_digest) := goodIn_app (goodIn_of _ (by decide +kernel)) ggL_law_X8_digest
