set_option maxRecDepth 20000 in
theorem ggL_law_X7_best : GoodIn wsL_law wsX7_best := goodIn_r _ [444, 23, 15, 372, 302, 445, 446, 447, 2, 448, 30, 449, 450, 451, 22, 452, 61, 453, 454, 455, 456, 186, 28, 457, 458, 126, 459, 144, 125, 127, 128, 129, 130, 131, 132, 133, 134, 135, 136, 460, 169, 170, 171, 172, 173, 461, 462, 463, 464, 60, 59, 465, 466, 467, 468, 469, 470, 471, 472, 473, 474, 475, 476, 859, 860, 861, 862, 863, 864, 865, 866, 867, 886, 887, 888, 889, 890, 891, 892, 893, 894, 895, 899, 900, 901] (by decide +kernel) (by decide +kernel)
set_option maxRecDepth 20000 in
theorem gL_law_X7_best : GoodIn wsL_law (wsV RL 80 RX7 yX7_best wsX7_best) := goodIn_app (goodIn_of _ (by decide +kernel)) ggL_law_X7_best
set_option maxRecDepth 20000 in
theorem ggL_law_X8_best : GoodIn wsL_law wsX8_best := goodIn_r _ [480, 152, 153, 154, 5, 155, 83, 481, 482, 483, 484, 78, 85, 485, 486, 487, 488, 489, 94, 81, 490, 491, 492, 493, 494, 495, 496, 497, 498, 499, 500, 501, 502, 503, 504, 505, 506, 507, 508, 509, 868, 869, 870, 871, 872, 873, 874, 875, 876, 877, 878, 879, 880, 881, 882, 883, 884, 885] (by decide +kernel) (by decide +kernel)
set_option maxRecDepth 20000 in
theorem gL_law_X8_best : GoodIn wsL_law (wsV RL 83 RX8 yX8_best wsX8_best) := goodIn_app (goodIn_of _ (by decide +kernel)) ggL_law_X8_best
set_option maxRecDepth 20000 in
theorem ggL_law_X7_near : GoodIn wsL_law wsX7_near := goodIn_r _ [513, 23, 15, 372, 302, 363, 445, 446, 447, 2, 448, 30, 449, 450, 451, 22, 452, 61, 453, 454, 455, 456, 186, 28, 457, 458, 126, 459, 144, 125, 127, 128, 129, 130, 131, 132, 133, 134, 135, 136, 460, 169, 170, 171, 172, 173, 461, 462, 463, 464, 60, 59, 514, 515, 516, 517, 518, 519, 520, 521, 522, 523, 524, 525, 526, 527, 528, 529, 530, 531, 532, 533, 534, 465, 466, 467, 468, 469, 470, 471, 472, 473, 474, 475, 476, 859, 860, 861, 862, 863, 864, 865, 866, 867, 886, 887, 888, 889, 890, 891, 892, 893, 894, 895, 899, 900, 901] (by decide +kernel) (by decide +kernel)
set_option maxRecDepth 20000 in
theorem gL_law_X7_near : GoodIn wsL_law (wsV RL 84 RX7 yX7_near wsX7_near) := goodIn_app (goodIn_of _ (by decide +kernel)) ggL_law_X7_near
set_option maxRecDepth 20000 in
theorem ggL_law_X8_near : GoodIn wsL_law wsX8_near := goodIn_r _ [538, 152, 153, 154, 5, 155, 83, 481, 482, 483, 484, 78, 85, 485, 486, 487, 488, 489, 94, 81, 490, 491, 492, 493, 494, 495, 496, 497, 498, 499, 500, 501, 502, 503, 504, 505, 506, 507, 508, 509, 868, 869, 870, 871, 872, 873, 874, 875, 876, 877, 878, 879, 880, 881, 882, 883, 884, 885] (by decide +kernel) (by decide +kernel)
set_option maxRecDepth 20000 in
theorem gL_law_X8_near : GoodIn wsL_law (wsV RL 87 RX8 yX8_near wsX8_near) := goodIn_app (goodIn_of _ (by decide +kernel)) ggL_law_X8_near
set_option maxRecDepth 20000 in
theorem ggL_law_X7_top : GoodIn wsL_law wsX7_top := goodIn_r _ [542, 15, 372, 302, 543, 314, 228, 315, 453, 454, 455, 2, 456, 186, 28, 457, 458, 126, 459, 144, 125, 127, 128, 129, 130, 131, 132, 133, 134, 135, 136, 460, 169, 170, 171, 172, 173, 859, 860, 861, 862, 863, 864, 865, 866, 867, 886, 887, 888, 889, 890, 891, 892, 893, 894, 895] (by decide +kernel) (by decide +kernel)
set_option maxRecDepth 20000 in
theorem gL_law_X7_top : GoodIn wsL_law (wsV RL 88 RX7 yX7_top wsX7_top) := goodIn_app (goodIn_of _ (by decide +kernel)) ggL_law_X7_top
set_option maxRecDepth 20000 in
theorem ggL_law_X8_top : GoodIn wsL_law wsX8_top := goodIn_r _ [547, 78, 548, 549, 550, 5, 551, 486, 487, 488, 489, 94, 81, 868, 869, 870, 871, 872, 873, 874, 875, 876, 877, 878, 879, 880, 881, 882, 883, 884, 885] (by decide +kernel) (by decide +kernel)
set_option maxRecDepth 20000 in
theorem gL_law_X8_top : GoodIn wsL_law (wsV RL 91 RX8 yX8_top wsX8_top) := goodIn_app (goodIn_of _ (by decide +kernel)) ggL_law_X8_top
set_option maxRecDepth 20000 in
theorem ggL_law_X7_under : GoodIn wsL_law wsX7_under := goodIn_r _ [555, 15, 372, 453, 454, 455, 2, 456, 186, 28, 457, 458, 126, 459, 144, 125, 127, 128, 129, 130, 131, 132, 133, 134, 135, 136, 460, 169, 170, 171, 172, 173, 859, 860, 861, 862, 863, 864, 865, 866, 867, 886, 887, 888, 889, 890, 891, 892, 893, 894, 895] (by decide +kernel) (by decide +kernel)
set_option maxRecDepth 20000 in
theorem gL_law_X7_under : GoodIn wsL_law (wsV RL 92 RX7 yX7_under wsX7_under) := goodIn_app (goodIn_of _ (by decide +kernel)) ggL_law_X7_under
set_option maxRecDepth 20000 in
theorem ggL_law_X8_under : GoodIn wsL_law wsX8_under := goodIn_r _ [559, 78, 486, 487, 488, 5, 489, 94, 81, 868, 869, 870, 871, 872, 873, 874, 875, 876, 877, 878, 879, 880, 881, 882, 883, 884, 885] (by decide +kernel) (by decide +kernel)
set_option maxRecDepth 20000 in
theorem gL_law_X8_under : GoodIn wsL_law (wsV RL 95 RX8 yX8_under wsX8_under) := goodIn_app (goodIn_of _ (by decide +kernel)) ggL_law_X8_under
set_option maxRecDepth 20000 in
theorem ggL_law_X7_close : GoodIn wsL_law wsX7_close := goodIn_r _ [563, 15, 372, 514, 515, 516, 2, 517, 186, 28, 518, 519, 126, 520, 521, 458, 459, 144, 125, 127, 128, 129, 130, 131, 132, 133, 134, 135, 136, 460, 169, 170, 171, 172, 173, 522, 523, 524, 525, 526, 527, 528, 529, 530, 531, 532, 533, 534, 859, 860, 861, 862, 863, 864, 865, 866, 867, 886, 887, 888, 889, 890, 891, 892, 893, 894, 895] (by decide +kernel) (by decide +kernel)
set_option maxRecDepth 20000 in
theorem gL_law_X7_close : GoodIn wsL_law (wsV RL 96 RX7 yX7_close wsX7_close) := goodIn_app (goodIn_of _ (by decide +kernel)) ggL_law_X7_close
set_option maxRecDepth 20000 in
theorem ggL_law_X8_close : GoodIn wsL_law wsX8_close := goodIn_r _ [567, 78, 490, 491, 492, 5, 493, 494, 495, 496, 497, 94, 81, 486, 487, 488, 489, 868, 869, 870, 871, 872, 873, 874, 875, 876, 877, 878, 879, 880, 881, 882, 883, 884, 885] (by decide +kernel) (by decide +kernel)
set_option maxRecDepth 20000 in
theorem gL_law_X8_close : GoodIn wsL_law (wsV RL 99 RX8 yX8_close wsX8_close) := goodIn_app (goodIn_of _ (by decide +kernel)) ggL_law_X8_close
set_option maxRecDepth 20000 in
theorem ggL_law_X7_ahead : GoodIn wsL_law wsX7_ahead := goodIn_r _ [571, 28, 15, 372, 186, 124, 125, 126, 127, 128, 129, 130, 131, 132, 133, 134, 135, 136, 453, 454, 455, 2, 456, 457, 458, 459, 144, 460, 169, 170, 171, 172, 173, 572, 573, 574, 14, 575, 40, 284, 285, 286, 287, 859, 860, 861, 862, 863, 864, 865, 866, 867, 886, 887, 888, 889, 890, 891, 892, 893, 894, 895] (by decide +kernel) (by decide +kernel)
set_option maxRecDepth 20000 in
theorem gL_law_X7_ahead : GoodIn wsL_law (wsV RL 100 RX7 yX7_ahead wsX7_ahead) := goodIn_app (goodIn_of _ (by decide +kernel)) ggL_law_X7_ahead
set_option maxRecDepth 20000 in
theorem ggL_law_X8_ahead : GoodIn wsL_law wsX8_ahead := goodIn_r _ [579, 94, 78, 548, 549, 550, 5, 551, 486, 487, 488, 489, 81, 868, 869, 870, 871, 872, 873, 874, 875, 876, 877, 878, 879, 880, 881, 882, 883, 884, 885] (by decide +kernel) (by decide +kernel)
set_option maxRecDepth 20000 in
theorem gL_law_X8_ahead : GoodIn wsL_law (wsV RL 103 RX8 yX8_ahead wsX8_ahead) := goodIn_app (goodIn_of _ (by decide +kernel)) ggL_law_X8_ahead
set_option maxRecDepth 20000 in
theorem ggL_law_X7_common : GoodIn wsL_law wsX7_common := goodIn_r _ [583, 15, 372, 186, 300, 227, 228, 229, 28, 453, 454, 455, 2, 456, 457, 458, 126, 459, 144, 125, 127, 128, 129, 130, 131, 132, 133, 134, 135, 136, 460, 169, 170, 171, 172, 173, 124, 584, 523, 524, 525, 526, 527, 528, 529, 530, 859, 860, 861, 862, 863, 864, 865, 866, 867, 886, 887, 888, 889, 890, 891, 892, 893, 894, 895] (by decide +kernel) (by decide +kernel)
set_option maxRecDepth 20000 in
theorem gL_law_X7_common : GoodIn wsL_law (wsV RL 104 RX7 yX7_common wsX7_common) := goodIn_app (goodIn_of _ (by decide +kernel)) ggL_law_X7_common
set_option maxRecDepth 20000 in
theorem ggL_law_X8_common : GoodIn wsL_law wsX8_common := goodIn_r _ [588, 78, 94, 548, 549, 550, 5, 551, 486, 487, 488, 489, 81, 589, 590, 591, 592, 868, 869, 870, 871, 872, 873, 874, 875, 876, 877, 878, 879, 880, 881, 882, 883, 884, 885] (by decide +kernel) (by decide +kernel)
set_option maxRecDepth 20000 in
theorem gL_law_X8_common : GoodIn wsL_law (wsV RL 107 RX8 yX8_common wsX8_common) := goodIn_app (goodIn_of _ (by decide +kernel)) ggL_law_X8_common
set_option maxRecDepth 20000 in
theorem ggL_law_X7_find : GoodIn wsL_law wsX7_find := goodIn_r _ [596, 15, 28, 470, 214, 215, 216, 14, 217, 44, 39, 859, 860, 861, 862, 863, 864, 865, 866, 867, 886, 887, 888, 889, 890, 891, 892, 893, 894, 895] (by decide +kernel) (by decide +kernel)
set_option maxRecDepth 20000 in
theorem gL_law_X7_find : GoodIn wsL_law (wsV RL 108 RX7 yX7_find wsX7_find) := goodIn_app (goodIn_of _ (by decide +kernel)) ggL_law_X7_find
set_option maxRecDepth 20000 in
theorem ggL_law_X8_find : GoodIn wsL_law wsX8_find := goodIn_r _ [600, 94, 81, 247, 248, 249, 5, 250, 78, 868, 869, 870, 871, 872, 873, 874, 875, 876, 877, 878, 879, 880, 881, 882, 883, 884, 885] (by decide +kernel) (by decide +kernel)
set_option maxRecDepth 20000 in
theorem gL_law_X8_find : GoodIn wsL_law (wsV RL 111 RX8 yX8_find wsX8_find) := goodIn_app (goodIn_of _ (by decide +kernel)) ggL_law_X8_find
set_option maxRecDepth 20000 in
theorem ggL_law_X7_keys : GoodIn wsL_law wsX7_keys := goodIn_r _ [604, 15, 187, 188, 189, 14, 190, 44, 37, 120, 121, 122, 2, 123, 30, 605, 606, 607, 608, 372, 186, 543, 314, 228, 315, 572, 573, 574, 575, 40, 584, 523, 126, 524, 144, 125, 127, 128, 129, 130, 131, 132, 133, 134, 135, 136, 525, 526, 527, 528, 529, 530, 124, 859, 860, 861, 862, 863, 864, 865, 866, 867, 886, 887, 888, 889, 890, 891, 892, 893, 894, 895] (by decide +kernel) (by decide +kernel)
set_option maxRecDepth 20000 in
theorem gL_law_X7_keys : GoodIn wsL_law (wsV RL 112 RX7 yX7_keys wsX7_keys) := goodIn_app (goodIn_of _ (by decide +kernel)) ggL_law_X7_keys
