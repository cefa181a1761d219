set_option maxRecDepth 20000 in
theorem ggL_law_X8_letter : GoodIn wsL_law wsX8_letter := goodIn_r _ [291, 78, 195, 196, 197, 5, 198, 149, 150, 151, 152, 153, 154, 155, 83, 868, 869, 870, 871, 872, 873, 874, 875, 876, 877, 878, 879, 880, 881, 882, 883, 884, 885] (by decide +kernel) (by decide +kernel)
set_option maxRecDepth 20000 in
theorem gL_law_X8_letter : GoodIn wsL_law (wsV RL 47 RX8 yX8_letter wsX8_letter) := goodIn_app (goodIn_of _ (by decide +kernel)) ggL_law_X8_letter
set_option maxRecDepth 20000 in
theorem ggL_law_X7_use : GoodIn wsL_law wsX7_use := goodIn_r _ [295, 15, 19, 187, 188, 189, 14, 190, 44, 37, 120, 121, 122, 2, 123, 30, 222, 223, 224, 18, 225, 53, 54, 55, 226, 227, 228, 229, 230, 231, 232, 233, 45, 46, 47, 234, 235, 236, 237, 39, 40, 41, 42, 43, 296, 297, 298, 299, 29, 300, 301, 302, 303, 304, 305, 306, 307, 308, 309, 310, 311, 312, 313, 314, 315, 859, 860, 861, 862, 863, 864, 865, 866, 867, 886, 887, 888, 889, 890, 891, 892, 893, 894, 895, 896, 897, 898] (by decide +kernel) (by decide +kernel)
set_option maxRecDepth 20000 in
theorem gL_law_X7_use : GoodIn wsL_law (wsV RL 48 RX7 yX7_use wsX7_use) := goodIn_app (goodIn_of _ (by decide +kernel)) ggL_law_X7_use
set_option maxRecDepth 20000 in
theorem ggL_law_X8_use : GoodIn wsL_law wsX8_use := goodIn_r _ [319, 195, 196, 197, 5, 198, 78, 149, 150, 151, 152, 153, 154, 155, 83, 259, 260, 261, 262, 92, 80, 199, 200, 201, 320, 321, 322, 323, 93, 324, 325, 326, 327, 328, 329, 330, 868, 869, 870, 871, 872, 873, 874, 875, 876, 877, 878, 879, 880, 881, 882, 883, 884, 885] (by decide +kernel) (by decide +kernel)
set_option maxRecDepth 20000 in
theorem gL_law_X8_use : GoodIn wsL_law (wsV RL 51 RX8 yX8_use wsX8_use) := goodIn_app (goodIn_of _ (by decide +kernel)) ggL_law_X8_use
set_option maxRecDepth 20000 in
theorem ggL_law_X7_score : GoodIn wsL_law wsX7_score := goodIn_r _ [334, 15, 19, 302, 187, 188, 189, 14, 190, 44, 37, 117, 118, 2, 119, 120, 121, 122, 123, 30, 222, 223, 224, 18, 225, 53, 54, 55, 226, 227, 228, 229, 230, 231, 232, 233, 45, 46, 47, 234, 235, 236, 237, 39, 40, 41, 42, 43, 859, 860, 861, 862, 863, 864, 865, 866, 867, 886, 887, 888, 889, 890, 891, 892, 893, 894, 895, 896, 897, 898] (by decide +kernel) (by decide +kernel)
set_option maxRecDepth 20000 in
theorem gL_law_X7_score : GoodIn wsL_law (wsV RL 52 RX7 yX7_score wsX7_score) := goodIn_app (goodIn_of _ (by decide +kernel)) ggL_law_X7_score
set_option maxRecDepth 20000 in
theorem ggL_law_X8_score : GoodIn wsL_law wsX8_score := goodIn_r _ [338, 78, 195, 196, 197, 5, 198, 149, 150, 151, 152, 153, 154, 155, 83, 259, 260, 261, 262, 92, 80, 199, 200, 201, 868, 869, 870, 871, 872, 873, 874, 875, 876, 877, 878, 879, 880, 881, 882, 883, 884, 885] (by decide +kernel) (by decide +kernel)
set_option maxRecDepth 20000 in
theorem gL_law_X8_score : GoodIn wsL_law (wsV RL 55 RX8 yX8_score wsX8_score) := goodIn_app (goodIn_of _ (by decide +kernel)) ggL_law_X8_score
set_option maxRecDepth 20000 in
theorem ggL_law_X7_drop : GoodIn wsL_law wsX7_drop := goodIn_r _ [342, 15, 19, 302, 187, 188, 189, 14, 190, 44, 37, 120, 121, 122, 2, 123, 30, 222, 223, 224, 18, 225, 53, 54, 55, 226, 227, 228, 229, 230, 231, 232, 233, 45, 46, 47, 234, 235, 236, 237, 39, 40, 41, 42, 43, 343, 344, 345, 346, 859, 860, 861, 862, 863, 864, 865, 866, 867, 886, 887, 888, 889, 890, 891, 892, 893, 894, 895, 896, 897, 898] (by decide +kernel) (by decide +kernel)
set_option maxRecDepth 20000 in
theorem gL_law_X7_drop : GoodIn wsL_law (wsV RL 56 RX7 yX7_drop wsX7_drop) := goodIn_app (goodIn_of _ (by decide +kernel)) ggL_law_X7_drop
set_option maxRecDepth 20000 in
theorem ggL_law_X8_drop : GoodIn wsL_law wsX8_drop := goodIn_r _ [350, 78, 195, 196, 197, 5, 198, 149, 150, 151, 152, 153, 154, 155, 83, 259, 260, 261, 262, 92, 80, 199, 200, 201, 868, 869, 870, 871, 872, 873, 874, 875, 876, 877, 878, 879, 880, 881, 882, 883, 884, 885] (by decide +kernel) (by decide +kernel)
set_option maxRecDepth 20000 in
theorem gL_law_X8_drop : GoodIn wsL_law (wsV RL 59 RX8 yX8_drop wsX8_drop) := goodIn_app (goodIn_of _ (by decide +kernel)) ggL_law_X8_drop
set_option maxRecDepth 20000 in
theorem ggL_law_X7_rank : GoodIn wsL_law wsX7_rank := goodIn_r _ [354, 19, 15, 301, 117, 118, 2, 119, 120, 121, 122, 123, 30, 222, 223, 224, 18, 225, 53, 54, 55, 226, 227, 228, 229, 230, 231, 232, 14, 233, 44, 45, 46, 47, 234, 235, 236, 237, 37, 39, 40, 41, 42, 43, 859, 860, 861, 862, 863, 864, 865, 866, 867, 886, 887, 888, 889, 890, 891, 892, 893, 894, 895, 896, 897, 898] (by decide +kernel) (by decide +kernel)
set_option maxRecDepth 20000 in
theorem gL_law_X7_rank : GoodIn wsL_law (wsV RL 60 RX7 yX7_rank wsX7_rank) := goodIn_app (goodIn_of _ (by decide +kernel)) ggL_law_X7_rank
set_option maxRecDepth 20000 in
theorem ggL_law_X8_rank : GoodIn wsL_law wsX8_rank := goodIn_r _ [358, 78, 149, 150, 5, 151, 152, 153, 154, 155, 83, 259, 260, 261, 262, 92, 80, 199, 200, 201, 868, 869, 870, 871, 872, 873, 874, 875, 876, 877, 878, 879, 880, 881, 882, 883, 884, 885] (by decide +kernel) (by decide +kernel)
set_option maxRecDepth 20000 in
theorem gL_law_X8_rank : GoodIn wsL_law (wsV RL 63 RX8 yX8_rank wsX8_rank) := goodIn_app (goodIn_of _ (by decide +kernel)) ggL_law_X8_rank
set_option maxRecDepth 20000 in
theorem ggL_law_X7_slip : GoodIn wsL_law wsX7_slip := goodIn_r _ [362, 19, 15, 363, 117, 118, 2, 119, 120, 121, 122, 123, 30, 222, 223, 224, 18, 225, 53, 54, 55, 226, 227, 228, 229, 230, 231, 232, 14, 233, 44, 45, 46, 47, 234, 235, 236, 237, 37, 39, 40, 41, 42, 43, 859, 860, 861, 862, 863, 864, 865, 866, 867, 886, 887, 888, 889, 890, 891, 892, 893, 894, 895, 896, 897, 898] (by decide +kernel) (by decide +kernel)
set_option maxRecDepth 20000 in
theorem gL_law_X7_slip : GoodIn wsL_law (wsV RL 64 RX7 yX7_slip wsX7_slip) := goodIn_app (goodIn_of _ (by decide +kernel)) ggL_law_X7_slip
set_option maxRecDepth 20000 in
theorem ggL_law_X8_slip : GoodIn wsL_law wsX8_slip := goodIn_r _ [367, 78, 149, 150, 5, 151, 152, 153, 154, 155, 83, 259, 260, 261, 262, 92, 80, 199, 200, 201, 868, 869, 870, 871, 872, 873, 874, 875, 876, 877, 878, 879, 880, 881, 882, 883, 884, 885] (by decide +kernel) (by decide +kernel)
set_option maxRecDepth 20000 in
theorem gL_law_X8_slip : GoodIn wsL_law (wsV RL 67 RX8 yX8_slip wsX8_slip) := goodIn_app (goodIn_of _ (by decide +kernel)) ggL_law_X8_slip
set_option maxRecDepth 20000 in
theorem ggL_law_X7_fades : GoodIn wsL_law wsX7_fades := goodIn_r _ [371, 19, 15, 372, 222, 223, 224, 18, 225, 53, 54, 55, 226, 227, 228, 229, 230, 231, 232, 14, 233, 44, 45, 46, 47, 234, 235, 236, 237, 37, 39, 40, 41, 42, 43, 373, 374, 375, 376, 859, 860, 861, 862, 863, 864, 865, 866, 867, 886, 887, 888, 889, 890, 891, 892, 893, 894, 895, 896, 897, 898] (by decide +kernel) (by decide +kernel)
set_option maxRecDepth 20000 in
theorem gL_law_X7_fades : GoodIn wsL_law (wsV RL 68 RX7 yX7_fades wsX7_fades) := goodIn_app (goodIn_of _ (by decide +kernel)) ggL_law_X7_fades
set_option maxRecDepth 20000 in
theorem ggL_law_X8_fades : GoodIn wsL_law wsX8_fades := goodIn_r _ [380, 259, 260, 261, 5, 262, 92, 80, 78, 199, 200, 201, 381, 382, 383, 384, 255, 256, 257, 258, 868, 869, 870, 871, 872, 873, 874, 875, 876, 877, 878, 879, 880, 881, 882, 883, 884, 885] (by decide +kernel) (by decide +kernel)
set_option maxRecDepth 20000 in
theorem gL_law_X8_fades : GoodIn wsL_law (wsV RL 71 RX8 yX8_fades wsX8_fades) := goodIn_app (goodIn_of _ (by decide +kernel)) ggL_law_X8_fades
set_option maxRecDepth 20000 in
theorem ggL_law_X7_draw : GoodIn wsL_law wsX7_draw := goodIn_r _ [388, 389, 19, 15, 117, 118, 2, 119, 120, 121, 122, 123, 30, 222, 223, 224, 18, 225, 53, 54, 55, 226, 227, 228, 229, 230, 231, 232, 14, 233, 44, 45, 46, 47, 234, 235, 236, 237, 37, 39, 40, 41, 42, 43, 390, 391, 392, 393, 394, 395, 396, 397, 398, 399, 400, 141, 142, 126, 143, 144, 125, 127, 128, 129, 130, 131, 132, 133, 134, 135, 136, 401, 402, 403, 404, 405, 406, 407, 408, 214, 215, 216, 217, 218, 219, 220, 221, 238, 239, 240, 241, 242, 859, 860, 861, 862, 863, 864, 865, 866, 867, 896, 897, 898, 886, 887, 888, 889, 890, 891, 892, 893, 894, 895] (by decide +kernel) (by decide +kernel)
set_option maxRecDepth 20000 in
theorem gL_law_X7_draw : GoodIn wsL_law (wsV RL 72 RX7 yX7_draw wsX7_draw) := goodIn_app (goodIn_of _ (by decide +kernel)) ggL_law_X7_draw
set_option maxRecDepth 20000 in
theorem ggL_law_X8_draw : GoodIn wsL_law wsX8_draw := goodIn_r _ [412, 413, 414, 415, 416, 84, 417, 418, 419, 420, 149, 150, 5, 151, 152, 153, 154, 155, 83, 259, 260, 261, 262, 92, 80, 78, 199, 200, 201, 421, 422, 423, 424, 425, 426, 427, 247, 248, 249, 250, 251, 252, 253, 254, 255, 256, 257, 258, 263, 264, 265, 266, 868, 869, 870, 871, 872, 873, 874, 875, 876, 877, 878, 879, 880, 881, 882, 883, 884, 885] (by decide +kernel) (by decide +kernel)
set_option maxRecDepth 20000 in
theorem gL_law_X8_draw : GoodIn wsL_law (wsV RL 75 RX8 yX8_draw wsX8_draw) := goodIn_app (goodIn_of _ (by decide +kernel)) ggL_law_X8_draw
set_option maxRecDepth 20000 in
theorem ggL_law_X7_undo : GoodIn wsL_law wsX7_undo := goodIn_r _ [431, 19, 432, 15, 164, 165, 166, 2, 167, 31, 433, 434, 435, 18, 436, 54, 53, 55, 230, 231, 232, 14, 233, 44, 45, 46, 47, 234, 235, 236, 237, 37, 39, 40, 41, 42, 43, 859, 860, 861, 862, 863, 864, 865, 866, 867, 896, 897, 898, 886, 887, 888, 889, 890, 891, 892, 893, 894, 895] (by decide +kernel) (by decide +kernel)
set_option maxRecDepth 20000 in
theorem gL_law_X7_undo : GoodIn wsL_law (wsV RL 76 RX7 yX7_undo wsX7_undo) := goodIn_app (goodIn_of _ (by decide +kernel)) ggL_law_X7_undo
set_option maxRecDepth 20000 in
theorem ggL_law_X8_undo : GoodIn wsL_law wsX8_undo := goodIn_r _ [440, 92, 80, 78, 178, 179, 180, 5, 181, 83, 199, 200, 201, 868, 869, 870, 871, 872, 873, 874, 875, 876, 877, 878, 879, 880, 881, 882, 883, 884, 885] (by decide +kernel) (by decide +kernel)
set_option maxRecDepth 20000 in
theorem gL_law_X8_undo : GoodIn wsL_law (wsV RL 79 RX8 yX8_undo wsX8_undo) := goodIn_app (goodIn_of _ (by decide +kernel)) ggL_law_X8_undo
