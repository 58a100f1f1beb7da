set_option maxRecDepth 20000 in
theorem ggL_law_X7_swaps : GoodIn wsL_law wsX7_swaps := goodIn_r _ [673, 31, 373, 374, 2, 375, 674, 675, 676, 30, 677, 86, 298, 85, 307, 315, 303, 304, 305, 306, 308, 309, 310, 311, 312, 313, 314, 292, 293, 444, 377, 378, 379, 380, 381, 445, 384, 385, 386, 344, 345, 346, 347, 348, 678, 679, 680, 857, 858, 859, 860, 861, 862, 863, 864, 865, 866, 867, 868, 869, 917, 918, 910, 911, 912, 913, 914, 915, 916, 894, 895, 896, 897, 898, 899, 900] (by decide +kernel) (by decide +kernel)
set_option maxRecDepth 20000 in
theorem gL_law_X7_swaps : GoodIn wsL_law (wsV RL 100 RX7 yX7_swaps wsX7_swaps) := goodIn_app (goodIn_of _ (by decide +kernel)) ggL_law_X7_swaps
set_option maxRecDepth 20000 in
theorem ggL_law_X8_swaps : GoodIn wsL_law wsX8_swaps := goodIn_r _ [684, 134, 114, 120, 119, 391, 392, 5, 393, 136, 137, 138, 666, 667, 668, 669, 398, 399, 400, 401, 361, 362, 363, 364, 324, 325, 326, 327, 115, 394, 395, 396, 397, 117, 402, 403, 404, 405, 365, 366, 367, 368, 116, 870, 871, 872, 873, 874, 875, 876, 877, 878, 879, 880, 881, 882, 883, 884, 885, 886, 887, 888, 889, 890, 891, 892, 893] (by decide +kernel) (by decide +kernel)
set_option maxRecDepth 20000 in
theorem gL_law_X8_swaps : GoodIn wsL_law (wsV RL 103 RX8 yX8_swaps wsX8_swaps) := goodIn_app (goodIn_of _ (by decide +kernel)) ggL_law_X8_swaps
set_option maxRecDepth 20000 in
theorem ggL_law_X7_record : GoodIn wsL_law wsX7_record := goodIn_r _ [688, 39, 689, 373, 374, 2, 375, 690, 691, 692, 38, 693, 99, 96, 98, 857, 858, 859, 860, 861, 862, 863, 864, 865, 866, 867, 868, 869, 920, 921, 922, 923] (by decide +kernel) (by decide +kernel)
set_option maxRecDepth 20000 in
theorem gL_law_X7_record : GoodIn wsL_law (wsV RL 104 RX7 yX7_record wsX7_record) := goodIn_app (goodIn_of _ (by decide +kernel)) ggL_law_X7_record
set_option maxRecDepth 20000 in
theorem ggL_law_X8_record : GoodIn wsL_law wsX8_record := goodIn_r _ [697, 134, 273, 124, 125, 391, 392, 5, 393, 136, 137, 138, 870, 871, 872, 873, 874, 875, 876, 877, 878, 879, 880, 881, 882, 883, 884, 885, 886, 887, 888, 889, 890, 891, 892, 893] (by decide +kernel) (by decide +kernel)
set_option maxRecDepth 20000 in
theorem gL_law_X8_record : GoodIn wsL_law (wsV RL 107 RX8 yX8_record wsX8_record) := goodIn_app (goodIn_of _ (by decide +kernel)) ggL_law_X8_record
set_option maxRecDepth 20000 in
theorem ggL_law_X7_forget : GoodIn wsL_law wsX7_forget := goodIn_r _ [701, 39, 689, 227, 228, 229, 38, 230, 99, 857, 858, 859, 860, 861, 862, 863, 864, 865, 866, 867, 868, 869, 920, 921, 922, 923] (by decide +kernel) (by decide +kernel)
set_option maxRecDepth 20000 in
theorem gL_law_X7_forget : GoodIn wsL_law (wsV RL 108 RX7 yX7_forget wsX7_forget) := goodIn_app (goodIn_of _ (by decide +kernel)) ggL_law_X7_forget
set_option maxRecDepth 20000 in
theorem ggL_law_X8_forget : GoodIn wsL_law wsX8_forget := goodIn_r _ [705, 134, 273, 870, 871, 872, 873, 874, 875, 876, 877, 878, 879, 880, 881, 882, 883, 884, 885, 886, 887, 888, 889, 890, 891, 892, 893] (by decide +kernel) (by decide +kernel)
set_option maxRecDepth 20000 in
theorem gL_law_X8_forget : GoodIn wsL_law (wsV RL 111 RX8 yX8_forget wsX8_forget) := goodIn_app (goodIn_of _ (by decide +kernel)) ggL_law_X8_forget
set_option maxRecDepth 20000 in
theorem ggL_law_X7_isFor : GoodIn wsL_law wsX7_isFor := goodIn_r _ [709, 39, 286, 287, 288, 2, 289, 18, 290, 525, 526, 527, 710, 711, 712, 38, 713, 100, 714, 295, 296, 30, 297, 86, 298, 299, 300, 301, 302, 303, 304, 305, 306, 85, 307, 308, 309, 310, 311, 312, 313, 314, 315, 292, 293, 715, 716, 717, 718, 99, 96, 98, 719, 720, 721, 722, 381, 444, 377, 378, 379, 380, 723, 384, 385, 386, 344, 345, 346, 347, 348, 724, 725, 726, 727, 857, 858, 859, 860, 861, 862, 863, 864, 865, 866, 867, 868, 869, 894, 895, 896, 897, 898, 899, 900, 920, 921, 922, 923, 917, 918, 910, 911, 912, 913, 914, 915, 916] (by decide +kernel) (by decide +kernel)
set_option maxRecDepth 20000 in
theorem gL_law_X7_isFor : GoodIn wsL_law (wsV RL 112 RX7 yX7_isFor wsX7_isFor) := goodIn_app (goodIn_of _ (by decide +kernel)) ggL_law_X7_isFor
set_option maxRecDepth 20000 in
theorem ggL_law_X8_isFor : GoodIn wsL_law wsX8_isFor := goodIn_r _ [731, 134, 117, 119, 320, 321, 322, 5, 323, 114, 136, 137, 138, 732, 733, 734, 735, 273, 124, 125, 398, 399, 400, 401, 361, 362, 363, 364, 324, 325, 326, 327, 115, 394, 395, 396, 397, 402, 403, 404, 405, 365, 366, 367, 368, 116, 870, 871, 872, 873, 874, 875, 876, 877, 878, 879, 880, 881, 882, 883, 884, 885, 886, 887, 888, 889, 890, 891, 892, 893] (by decide +kernel) (by decide +kernel)
set_option maxRecDepth 20000 in
theorem gL_law_X8_isFor : GoodIn wsL_law (wsV RL 115 RX8 yX8_isFor wsX8_isFor) := goodIn_app (goodIn_of _ (by decide +kernel)) ggL_law_X8_isFor
set_option maxRecDepth 20000 in
theorem ggL_law_X7_who : GoodIn wsL_law wsX7_who := goodIn_r _ [739, 39, 740, 741, 742, 38, 743, 100, 744, 745, 746, 747, 748, 749, 99, 96, 98, 750, 300, 301, 30, 302, 303, 304, 305, 306, 85, 307, 308, 86, 309, 310, 311, 312, 313, 314, 315, 292, 2, 293, 751, 377, 378, 379, 380, 381, 723, 384, 385, 386, 344, 345, 346, 347, 348, 857, 858, 859, 860, 861, 862, 863, 864, 865, 866, 867, 868, 869, 920, 921, 922, 923, 917, 918, 894, 895, 896, 897, 898, 899, 900, 910, 911, 912, 913, 914, 915, 916] (by decide +kernel) (by decide +kernel)
set_option maxRecDepth 20000 in
theorem gL_law_X7_who : GoodIn wsL_law (wsV RL 116 RX7 yX7_who wsX7_who) := goodIn_app (goodIn_of _ (by decide +kernel)) ggL_law_X7_who
set_option maxRecDepth 20000 in
theorem ggL_law_X8_who : GoodIn wsL_law wsX8_who := goodIn_r _ [755, 134, 120, 114, 666, 667, 668, 5, 669, 119, 732, 733, 734, 735, 273, 124, 125, 398, 399, 400, 401, 361, 362, 363, 364, 324, 325, 326, 327, 115, 394, 395, 396, 397, 117, 402, 403, 404, 405, 365, 366, 367, 368, 116, 870, 871, 872, 873, 874, 875, 876, 877, 878, 879, 880, 881, 882, 883, 884, 885, 886, 887, 888, 889, 890, 891, 892, 893] (by decide +kernel) (by decide +kernel)
set_option maxRecDepth 20000 in
theorem gL_law_X8_who : GoodIn wsL_law (wsV RL 119 RX8 yX8_who wsX8_who) := goodIn_app (goodIn_of _ (by decide +kernel)) ggL_law_X8_who
set_option maxRecDepth 20000 in
theorem ggL_law_X7_odds : GoodIn wsL_law wsX7_odds := goodIn_r _ [759, 31, 373, 374, 2, 375, 525, 526, 527, 760, 761, 762, 30, 763, 85, 417, 444, 377, 378, 379, 307, 380, 86, 381, 292, 293, 299, 300, 301, 302, 303, 304, 305, 306, 308, 309, 310, 311, 312, 313, 314, 315, 445, 384, 385, 386, 344, 345, 346, 347, 348, 764, 765, 766, 767, 768, 769, 770, 771, 549, 550, 551, 552, 553, 554, 857, 858, 859, 860, 861, 862, 863, 864, 865, 866, 867, 868, 869, 917, 918, 894, 895, 896, 897, 898, 899, 900, 910, 911, 912, 913, 914, 915, 916] (by decide +kernel) (by decide +kernel)
set_option maxRecDepth 20000 in
theorem gL_law_X7_odds : GoodIn wsL_law (wsV RL 120 RX7 yX7_odds wsX7_odds) := goodIn_app (goodIn_of _ (by decide +kernel)) ggL_law_X7_odds
set_option maxRecDepth 20000 in
theorem ggL_law_X8_odds : GoodIn wsL_law wsX8_odds := goodIn_r _ [775, 134, 114, 120, 391, 392, 5, 393, 136, 137, 138, 666, 667, 668, 669, 119, 398, 399, 400, 401, 361, 362, 363, 364, 324, 325, 326, 327, 115, 394, 395, 396, 397, 117, 402, 403, 404, 405, 365, 366, 367, 368, 116, 570, 571, 572, 870, 871, 872, 873, 874, 875, 876, 877, 878, 879, 880, 881, 882, 883, 884, 885, 886, 887, 888, 889, 890, 891, 892, 893] (by decide +kernel) (by decide +kernel)
set_option maxRecDepth 20000 in
theorem gL_law_X8_odds : GoodIn wsL_law (wsV RL 124 RX8 yX8_odds wsX8_odds) := goodIn_app (goodIn_of _ (by decide +kernel)) ggL_law_X8_odds
set_option maxRecDepth 20000 in
theorem ggL_law_X7_rate : GoodIn wsL_law wsX7_rate := goodIn_r _ [779, 780, 286, 287, 288, 2, 289, 18, 290, 781, 782, 783, 784, 46, 280, 785, 786, 787, 788, 789, 281, 470, 471, 472, 473, 474, 475, 476, 790, 791, 792, 793, 794, 27, 285, 795, 796, 797, 798, 799, 800, 801, 802, 803, 804, 805, 806, 807, 808, 809, 410, 857, 858, 859, 860, 861, 862, 863, 864, 865, 866, 867, 868, 869, 894, 895, 896, 897, 898, 899, 900, 910, 911, 912, 913, 914, 915, 916] (by decide +kernel) (by decide +kernel)
set_option maxRecDepth 20000 in
theorem gL_law_X7_rate : GoodIn wsL_law (wsV RL 125 RX7 yX7_rate wsX7_rate) := goodIn_app (goodIn_of _ (by decide +kernel)) ggL_law_X7_rate
set_option maxRecDepth 20000 in
theorem ggL_law_X8_rate : GoodIn wsL_law wsX8_rate := goodIn_r _ [813, 134, 814, 116, 117, 119, 815, 816, 817, 818, 819, 820, 136, 137, 5, 138, 320, 321, 322, 323, 114, 481, 482, 483, 870, 871, 872, 873, 874, 875, 876, 877, 878, 879, 880, 881, 882, 883, 884, 885, 886, 887, 888, 889, 890, 891, 892, 893] (by decide +kernel) (by decide +kernel)
set_option maxRecDepth 20000 in
theorem gL_law_X8_rate : GoodIn wsL_law (wsV RL 128 RX8 yX8_rate wsX8_rate) := goodIn_app (goodIn_of _ (by decide +kernel)) ggL_law_X8_rate
set_option maxRecDepth 20000 in
theorem ggL_law_X7_keep : GoodIn wsL_law wsX7_keep := goodIn_r _ [824, 44, 27, 45, 410, 825, 826, 2, 827, 828, 437, 438, 26, 439, 74, 222, 214, 215, 216, 75, 76, 77, 78, 79, 80, 857, 858, 859, 860, 861, 862, 863, 864, 865, 866, 867, 868, 869, 910, 911, 912, 913, 914, 915, 916] (by decide +kernel) (by decide +kernel)
set_option maxRecDepth 20000 in
theorem gL_law_X7_keep : GoodIn wsL_law (wsV RL 129 RX7 yX7_keep wsX7_keep) := goodIn_app (goodIn_of _ (by decide +kernel)) ggL_law_X7_keep
set_option maxRecDepth 20000 in
theorem ggL_law_X8_keep : GoodIn wsL_law wsX8_keep := goodIn_r _ [832, 134, 121, 119, 122, 136, 137, 5, 138, 870, 871, 872, 873, 874, 875, 876, 877, 878, 879, 880, 881, 882, 883, 884, 885, 886, 887, 888, 889, 890, 891, 892, 893] (by decide +kernel) (by decide +kernel)
set_option maxRecDepth 20000 in
theorem gL_law_X8_keep : GoodIn wsL_law (wsV RL 132 RX8 yX8_keep wsX8_keep) := goodIn_app (goodIn_of _ (by decide +kernel)) ggL_law_X8_keep
set_option maxRecDepth 20000 in
theorem ggL_law_X7_back : GoodIn wsL_law wsX7_back := goodIn_r _ [836, 45, 27, 44, 43, 410, 825, 826, 2, 827, 291, 292, 293, 828, 437, 438, 26, 439, 74, 222, 214, 215, 216, 75, 76, 77, 78, 79, 80, 231, 232, 233, 42, 234, 108, 857, 858, 859, 860, 861, 862, 863, 864, 865, 866, 867, 868, 869, 910, 911, 912, 913, 914, 915, 916, 924, 925, 926] (by decide +kernel) (by decide +kernel)
set_option maxRecDepth 20000 in
theorem gL_law_X7_back : GoodIn wsL_law (wsV RL 133 RX7 yX7_back wsX7_back) := goodIn_app (goodIn_of _ (by decide +kernel)) ggL_law_X7_back
set_option maxRecDepth 20000 in
theorem ggL_law_X8_back : GoodIn wsL_law wsX8_back := goodIn_r _ [840, 134, 122, 119, 121, 274, 136, 137, 5, 138, 870, 871, 872, 873, 874, 875, 876, 877, 878, 879, 880, 881, 882, 883, 884, 885, 886, 887, 888, 889, 890, 891, 892, 893] (by decide +kernel) (by decide +kernel)
set_option maxRecDepth 20000 in
theorem gL_law_X8_back : GoodIn wsL_law (wsV RL 136 RX8 yX8_back wsX8_back) := goodIn_app (goodIn_of _ (by decide +kernel)) ggL_law_X8_back
set_option maxRecDepth 20000 in
theorem ggL_law_X7_count : GoodIn wsL_law wsX7_count := goodIn_r _ [844, 18, 290, 337, 496, 39, 689, 14, 857, 858, 859, 860, 861, 862, 863, 864, 865, 866, 867, 868, 869, 894, 895, 896, 897, 898, 899, 900, 920, 921, 922, 923] (by decide +kernel) (by decide +kernel)
set_option maxRecDepth 20000 in
theorem gL_law_X7_count : GoodIn wsL_law (wsV RL 137 RX7 yX7_count wsX7_count) := goodIn_app (goodIn_of _ (by decide +kernel)) ggL_law_X7_count
set_option maxRecDepth 20000 in
theorem ggL_law_X8_count : GoodIn wsL_law wsX8_count := goodIn_r _ [848, 134, 114, 273, 135, 136, 137, 5, 138, 870, 871, 872, 873, 874, 875, 876, 877, 878, 879, 880, 881, 882, 883, 884, 885, 886, 887, 888, 889, 890, 891, 892, 893] (by decide +kernel) (by decide +kernel)
set_option maxRecDepth 20000 in
theorem gL_law_X8_count : GoodIn wsL_law (wsV RL 140 RX8 yX8_count wsX8_count) := goodIn_app (goodIn_of _ (by decide +kernel)) ggL_law_X8_count
set_option maxRecDepth 20000 in
theorem ggL_law_X7_trace : GoodIn wsL_law wsX7_trace := goodIn_r _ [852, 46, 857, 858, 859, 860, 861, 862, 863, 864, 865, 866, 867, 868, 869] (by decide +kernel) (by decide +kernel)
set_option maxRecDepth 20000 in
theorem gL_law_X7_trace : GoodIn wsL_law (wsV RL 141 RX7 yX7_trace wsX7_trace) := goodIn_app (goodIn_of _ (by decide +kernel)) ggL_law_X7_trace
set_option maxRecDepth 20000 in
theorem ggL_law_X8_trace : GoodIn wsL_law wsX8_trace := goodIn_r _ [856, 134, 815, 870, 871, 872, 873, 874, 875, 876, 877, 878, 879, 880, 881, 882, 883, 884, 885, 886, 887, 888, 889, 890, 891, 892, 893] (by decide +kernel) (by decide +kernel)
set_option maxRecDepth 20000 in
theorem gL_law_X8_trace : GoodIn wsL_law (wsV RL 145 RX8 yX8_trace wsX8_trace) := goodIn_app (goodIn_of _ (by decide +kernel)) ggL_law_X8_trace
