set_option maxRecDepth 20000 in
theorem ggL_law_X7_init : GoodIn wsL_law wsX7_init := goodIn_r _ [8, 9, 10, 11, 12, 13, 14, 15, 16, 17, 18, 19, 20, 21, 22, 23, 24, 25, 26, 27, 28, 29, 30, 31, 32, 33, 34, 35, 36, 37, 38, 39, 40, 41, 42, 43, 44, 45, 46, 47, 48, 49, 50, 51, 52, 53, 54, 55, 56, 57, 58, 59, 60, 61, 62, 63, 64, 65, 66, 67, 68, 69, 70, 71, 72, 73, 886, 887, 888, 889, 890, 891, 892, 893, 894, 895, 859, 860, 861, 862, 863, 864, 865, 866, 867, 896, 897, 898, 899, 900, 901, 902, 903, 904, 905, 906, 907, 908, 909, 910] (by decide +kernel) (by decide +kernel)
set_option maxRecDepth 20000 in
theorem gL_law_X7_init : GoodIn wsL_law (wsX7_init) := ggL_law_X7_init
set_option maxRecDepth 20000 in
theorem ggL_law_X8_init : GoodIn wsL_law wsX8_init := goodIn_r _ [76, 77, 10, 11, 36, 78, 79, 80, 81, 82, 83, 84, 85, 86, 87, 88, 89, 90, 5, 91, 92, 93, 94, 95, 868, 869, 870, 871, 872, 873, 874, 875, 876, 877, 878, 879, 880, 881, 882, 883, 884, 885] (by decide +kernel) (by decide +kernel)
set_option maxRecDepth 20000 in
theorem gL_law_X8_init : GoodIn wsL_law (wsX8_init) := ggL_law_X8_init
set_option maxRecDepth 20000 in
theorem ggL_law_X7_start : GoodIn wsL_law wsX7_start := goodIn_r _ [99, 15, 19, 27, 28, 29, 30, 31, 32, 100, 101, 102, 14, 103, 44, 45, 46, 47, 104, 105, 106, 18, 107, 54, 55, 108, 109, 110, 26, 111, 66, 859, 860, 861, 862, 863, 864, 865, 866, 867, 886, 887, 888, 889, 890, 891, 892, 893, 894, 895, 896, 897, 898, 902, 903, 904, 905, 906, 907, 908, 909, 910] (by decide +kernel) (by decide +kernel)
set_option maxRecDepth 20000 in
theorem gL_law_X7_start : GoodIn wsL_law (wsV RL 13 RX7 yX7_start wsX7_start) := goodIn_app (goodIn_of _ (by decide +kernel)) ggL_law_X7_start
set_option maxRecDepth 20000 in
theorem ggL_law_X8_start : GoodIn wsL_law wsX8_start := goodIn_r _ [91, 78, 92, 93, 94, 95, 83, 868, 869, 870, 871, 872, 873, 874, 875, 876, 877, 878, 879, 880, 881, 882, 883, 884, 885] (by decide +kernel) (by decide +kernel)
set_option maxRecDepth 20000 in
theorem gL_law_X8_start : GoodIn wsL_law (wsV RL 17 RX8 yX8_start wsX8_start) := goodIn_app (goodIn_of _ (by decide +kernel)) ggL_law_X8_start
set_option maxRecDepth 20000 in
theorem ggL_law_X7_type : GoodIn wsL_law wsX7_type := goodIn_r _ [116, 28, 117, 118, 2, 119, 120, 121, 122, 123, 30, 124, 125, 126, 127, 128, 129, 130, 131, 132, 133, 134, 135, 136, 137, 138, 139, 140, 32, 141, 142, 143, 144, 859, 860, 861, 862, 863, 864, 865, 866, 867] (by decide +kernel) (by decide +kernel)
set_option maxRecDepth 20000 in
theorem gL_law_X7_type : GoodIn wsL_law (wsV RL 18 RX7 yX7_type wsX7_type) := goodIn_app (goodIn_of _ (by decide +kernel)) ggL_law_X7_type
set_option maxRecDepth 20000 in
theorem ggL_law_X8_type : GoodIn wsL_law wsX8_type := goodIn_r _ [148, 94, 81, 149, 150, 5, 151, 152, 153, 154, 155, 83, 156, 157, 158, 159, 868, 869, 870, 871, 872, 873, 874, 875, 876, 877, 878, 879, 880, 881, 882, 883, 884, 885] (by decide +kernel) (by decide +kernel)
set_option maxRecDepth 20000 in
theorem gL_law_X8_type : GoodIn wsL_law (wsV RL 22 RX8 yX8_type wsX8_type) := goodIn_app (goodIn_of _ (by decide +kernel)) ggL_law_X8_type
set_option maxRecDepth 20000 in
theorem ggL_law_X7_rub : GoodIn wsL_law wsX7_rub := goodIn_r _ [163, 28, 124, 125, 126, 127, 128, 129, 130, 131, 132, 133, 134, 135, 136, 164, 165, 166, 2, 167, 31, 168, 169, 170, 171, 172, 173, 859, 860, 861, 862, 863, 864, 865, 866, 867] (by decide +kernel) (by decide +kernel)
set_option maxRecDepth 20000 in
theorem gL_law_X7_rub : GoodIn wsL_law (wsV RL 23 RX7 yX7_rub wsX7_rub) := goodIn_app (goodIn_of _ (by decide +kernel)) ggL_law_X7_rub
set_option maxRecDepth 20000 in
theorem ggL_law_X8_rub : GoodIn wsL_law wsX8_rub := goodIn_r _ [177, 94, 178, 179, 180, 5, 181, 83, 868, 869, 870, 871, 872, 873, 874, 875, 876, 877, 878, 879, 880, 881, 882, 883, 884, 885] (by decide +kernel) (by decide +kernel)
set_option maxRecDepth 20000 in
theorem gL_law_X8_rub : GoodIn wsL_law (wsV RL 26 RX8 yX8_rub wsX8_rub) := goodIn_app (goodIn_of _ (by decide +kernel)) ggL_law_X8_rub
set_option maxRecDepth 20000 in
theorem ggL_law_X7_types : GoodIn wsL_law wsX7_types := goodIn_r _ [185, 15, 186, 28, 187, 188, 189, 14, 190, 44, 37, 124, 125, 126, 127, 128, 129, 130, 131, 132, 133, 134, 135, 136, 117, 118, 2, 119, 120, 121, 122, 123, 30, 168, 169, 170, 171, 172, 173, 859, 860, 861, 862, 863, 864, 865, 866, 867, 886, 887, 888, 889, 890, 891, 892, 893, 894, 895] (by decide +kernel) (by decide +kernel)
set_option maxRecDepth 20000 in
theorem gL_law_X7_types : GoodIn wsL_law (wsV RL 27 RX7 yX7_types wsX7_types) := goodIn_app (goodIn_of _ (by decide +kernel)) ggL_law_X7_types
set_option maxRecDepth 20000 in
theorem ggL_law_X8_types : GoodIn wsL_law wsX8_types := goodIn_r _ [194, 78, 81, 94, 195, 196, 197, 5, 198, 149, 150, 151, 152, 153, 154, 155, 83, 199, 200, 201, 868, 869, 870, 871, 872, 873, 874, 875, 876, 877, 878, 879, 880, 881, 882, 883, 884, 885] (by decide +kernel) (by decide +kernel)
set_option maxRecDepth 20000 in
theorem gL_law_X8_types : GoodIn wsL_law (wsV RL 31 RX8 yX8_types wsX8_types) := goodIn_app (goodIn_of _ (by decide +kernel)) ggL_law_X8_types
set_option maxRecDepth 20000 in
theorem ggL_law_X7_clear : GoodIn wsL_law wsX7_clear := goodIn_r _ [205, 28, 124, 125, 126, 127, 128, 129, 130, 131, 132, 133, 134, 135, 136, 859, 860, 861, 862, 863, 864, 865, 866, 867] (by decide +kernel) (by decide +kernel)
set_option maxRecDepth 20000 in
theorem gL_law_X7_clear : GoodIn wsL_law (wsV RL 32 RX7 yX7_clear wsX7_clear) := goodIn_app (goodIn_of _ (by decide +kernel)) ggL_law_X7_clear
set_option maxRecDepth 20000 in
theorem ggL_law_X8_clear : GoodIn wsL_law wsX8_clear := goodIn_r _ [209, 94, 868, 869, 870, 871, 872, 873, 874, 875, 876, 877, 878, 879, 880, 881, 882, 883, 884, 885] (by decide +kernel) (by decide +kernel)
set_option maxRecDepth 20000 in
theorem gL_law_X8_clear : GoodIn wsL_law (wsV RL 35 RX8 yX8_clear wsX8_clear) := goodIn_app (goodIn_of _ (by decide +kernel)) ggL_law_X8_clear
set_option maxRecDepth 20000 in
theorem ggL_law_X7_adds : GoodIn wsL_law wsX7_adds := goodIn_r _ [213, 28, 15, 19, 117, 118, 2, 119, 120, 121, 122, 123, 30, 124, 125, 126, 127, 128, 129, 130, 131, 132, 133, 134, 135, 136, 214, 215, 216, 14, 217, 44, 39, 164, 165, 166, 167, 31, 218, 219, 220, 221, 45, 137, 138, 139, 140, 32, 222, 223, 224, 18, 225, 53, 54, 55, 226, 227, 228, 229, 230, 231, 232, 233, 46, 47, 234, 235, 236, 237, 37, 40, 41, 42, 43, 238, 239, 240, 241, 242, 859, 860, 861, 862, 863, 864, 865, 866, 867, 886, 887, 888, 889, 890, 891, 892, 893, 894, 895, 896, 897, 898] (by decide +kernel) (by decide +kernel)
set_option maxRecDepth 20000 in
theorem gL_law_X7_adds : GoodIn wsL_law (wsV RL 36 RX7 yX7_adds wsX7_adds) := goodIn_app (goodIn_of _ (by decide +kernel)) ggL_law_X7_adds
set_option maxRecDepth 20000 in
theorem ggL_law_X8_adds : GoodIn wsL_law wsX8_adds := goodIn_r _ [246, 94, 81, 149, 150, 5, 151, 152, 153, 154, 155, 83, 247, 248, 249, 250, 78, 178, 179, 180, 181, 251, 252, 253, 254, 255, 256, 257, 258, 156, 157, 158, 159, 259, 260, 261, 262, 92, 80, 199, 200, 201, 263, 264, 265, 266, 868, 869, 870, 871, 872, 873, 874, 875, 876, 877, 878, 879, 880, 881, 882, 883, 884, 885] (by decide +kernel) (by decide +kernel)
set_option maxRecDepth 20000 in
theorem gL_law_X8_adds : GoodIn wsL_law (wsV RL 39 RX8 yX8_adds wsX8_adds) := goodIn_app (goodIn_of _ (by decide +kernel)) ggL_law_X8_adds
set_option maxRecDepth 20000 in
theorem ggL_law_X7_of : GoodIn wsL_law wsX7_of := goodIn_r _ [270, 15, 187, 188, 189, 14, 190, 44, 37, 117, 118, 2, 119, 120, 121, 122, 123, 30, 271, 272, 273, 274, 40, 41, 39, 42, 43, 275, 125, 126, 127, 128, 129, 130, 131, 132, 133, 134, 135, 136, 859, 860, 861, 862, 863, 864, 865, 866, 867, 886, 887, 888, 889, 890, 891, 892, 893, 894, 895] (by decide +kernel) (by decide +kernel)
set_option maxRecDepth 20000 in
theorem gL_law_X7_of : GoodIn wsL_law (wsV RL 40 RX7 yX7_of wsX7_of) := goodIn_app (goodIn_of _ (by decide +kernel)) ggL_law_X7_of
set_option maxRecDepth 20000 in
theorem ggL_law_X8_of : GoodIn wsL_law wsX8_of := goodIn_r _ [279, 78, 195, 196, 197, 5, 198, 149, 150, 151, 152, 153, 154, 155, 83, 868, 869, 870, 871, 872, 873, 874, 875, 876, 877, 878, 879, 880, 881, 882, 883, 884, 885] (by decide +kernel) (by decide +kernel)
set_option maxRecDepth 20000 in
theorem gL_law_X8_of : GoodIn wsL_law (wsV RL 43 RX8 yX8_of wsX8_of) := goodIn_app (goodIn_of _ (by decide +kernel)) ggL_law_X8_of
set_option maxRecDepth 20000 in
theorem ggL_law_X7_letter : GoodIn wsL_law wsX7_letter := goodIn_r _ [283, 15, 186, 187, 188, 189, 14, 190, 44, 37, 120, 121, 122, 2, 123, 30, 124, 125, 126, 127, 128, 129, 130, 131, 132, 133, 134, 135, 136, 284, 285, 286, 287, 859, 860, 861, 862, 863, 864, 865, 866, 867, 886, 887, 888, 889, 890, 891, 892, 893, 894, 895] (by decide +kernel) (by decide +kernel)
set_option maxRecDepth 20000 in
theorem gL_law_X7_letter : GoodIn wsL_law (wsV RL 44 RX7 yX7_letter wsX7_letter) := goodIn_app (goodIn_of _ (by decide +kernel)) ggL_law_X7_letter
