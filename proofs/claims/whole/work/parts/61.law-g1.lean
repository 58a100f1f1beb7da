set_option maxRecDepth 20000 in
theorem ggL_law_X7_init : GoodIn wsL_law wsX7_init := goodIn_r _ [8, 9, 10, 11, 12, 13, 14, 15, 16, 17, 18, 19, 20, 21, 22, 23, 24, 25, 26, 27, 28, 29, 30, 31, 32, 33, 34, 35, 36, 37, 38, 39, 40, 41, 42, 43, 44, 45, 46, 47, 48, 49, 50, 51, 52, 53, 54, 55, 56, 57, 58, 59, 60, 61, 62, 63, 64, 65, 66, 67, 68, 69, 70, 71, 72, 73, 74, 75, 76, 77, 78, 79, 80, 81, 82, 83, 84, 85, 86, 87, 88, 89, 90, 91, 92, 93, 94, 95, 96, 97, 98, 99, 100, 101, 102, 103, 104, 105, 106, 107, 108, 857, 858, 859, 860, 861, 862, 863, 864, 865, 866, 867, 868, 869, 894, 895, 896, 897, 898, 899, 900, 901, 902, 903, 904, 905, 906, 907, 908, 909, 910, 911, 912, 913, 914, 915, 916, 917, 918, 919, 920, 921, 922, 923, 924, 925, 926] (by decide +kernel) (by decide +kernel)
set_option maxRecDepth 20000 in
theorem gL_law_X7_init : GoodIn wsL_law (wsX7_init) := ggL_law_X7_init
set_option maxRecDepth 20000 in
theorem ggL_law_X8_init : GoodIn wsL_law wsX8_init := goodIn_r _ [111, 112, 10, 11, 53, 113, 114, 115, 116, 117, 118, 119, 120, 121, 97, 122, 123, 124, 125, 870, 871, 872, 873, 874, 875, 876, 877, 878, 879, 880, 881, 882, 883, 884, 885, 886, 887, 888, 889, 890, 891, 892, 893] (by decide +kernel) (by decide +kernel)
set_option maxRecDepth 20000 in
theorem gL_law_X8_init : GoodIn wsL_law (wsX8_init) := ggL_law_X8_init
set_option maxRecDepth 20000 in
theorem ggL_law_X7_type : GoodIn wsL_law wsX7_type := goodIn_r _ [129, 14, 13, 857, 858, 859, 860, 861, 862, 863, 864, 865, 866, 867, 868, 869] (by decide +kernel) (by decide +kernel)
set_option maxRecDepth 20000 in
theorem gL_law_X7_type : GoodIn wsL_law (wsV RL 13 RX7 yX7_type wsX7_type) := goodIn_app (goodIn_of _ (by decide +kernel)) ggL_law_X7_type
set_option maxRecDepth 20000 in
theorem ggL_law_X8_type : GoodIn wsL_law wsX8_type := goodIn_r _ [133, 134, 135, 113, 136, 137, 5, 138, 870, 871, 872, 873, 874, 875, 876, 877, 878, 879, 880, 881, 882, 883, 884, 885, 886, 887, 888, 889, 890, 891, 892, 893] (by decide +kernel) (by decide +kernel)
set_option maxRecDepth 20000 in
theorem gL_law_X8_type : GoodIn wsL_law (wsV RL 17 RX8 yX8_type wsX8_type) := goodIn_app (goodIn_of _ (by decide +kernel)) ggL_law_X8_type
set_option maxRecDepth 20000 in
theorem ggL_law_X7_clear : GoodIn wsL_law wsX7_clear := goodIn_r _ [142, 14, 857, 858, 859, 860, 861, 862, 863, 864, 865, 866, 867, 868, 869] (by decide +kernel) (by decide +kernel)
set_option maxRecDepth 20000 in
theorem gL_law_X7_clear : GoodIn wsL_law (wsV RL 18 RX7 yX7_clear wsX7_clear) := goodIn_app (goodIn_of _ (by decide +kernel)) ggL_law_X7_clear
set_option maxRecDepth 20000 in
theorem ggL_law_X8_clear : GoodIn wsL_law wsX8_clear := goodIn_r _ [146, 134, 135, 870, 871, 872, 873, 874, 875, 876, 877, 878, 879, 880, 881, 882, 883, 884, 885, 886, 887, 888, 889, 890, 891, 892, 893] (by decide +kernel) (by decide +kernel)
set_option maxRecDepth 20000 in
theorem gL_law_X8_clear : GoodIn wsL_law (wsV RL 22 RX8 yX8_clear wsX8_clear) := goodIn_app (goodIn_of _ (by decide +kernel)) ggL_law_X8_clear
set_option maxRecDepth 20000 in
theorem ggL_law_X7_council : GoodIn wsL_law wsX7_council := goodIn_r _ [150, 23, 14, 18, 19, 27, 39, 43, 45, 151, 152, 153, 22, 154, 64, 67, 155, 156, 157, 158, 69, 159, 160, 161, 162, 62, 63, 68, 70, 163, 164, 165, 17, 166, 50, 51, 52, 167, 168, 169, 170, 65, 171, 172, 173, 174, 175, 176, 177, 66, 178, 179, 180, 181, 182, 183, 184, 185, 186, 187, 188, 189, 190, 191, 192, 193, 194, 195, 196, 197, 198, 199, 54, 55, 56, 57, 200, 201, 202, 203, 204, 205, 206, 207, 208, 209, 210, 211, 212, 213, 214, 215, 216, 217, 218, 219, 26, 220, 221, 74, 222, 75, 76, 77, 78, 79, 80, 223, 224, 225, 226, 227, 228, 229, 38, 230, 99, 231, 232, 233, 42, 234, 108, 857, 858, 859, 860, 861, 862, 863, 864, 865, 866, 867, 868, 869, 901, 902, 903, 904, 905, 906, 907, 908, 909, 894, 895, 896, 897, 898, 899, 900, 910, 911, 912, 913, 914, 915, 916, 920, 921, 922, 923, 924, 925, 926] (by decide +kernel) (by decide +kernel)
set_option maxRecDepth 20000 in
theorem gL_law_X7_council : GoodIn wsL_law (wsV RL 23 RX7 yX7_council wsX7_council) := goodIn_app (goodIn_of _ (by decide +kernel)) ggL_law_X7_council
set_option maxRecDepth 20000 in
theorem ggL_law_X8_council : GoodIn wsL_law wsX8_council := goodIn_r _ [238, 134, 239, 240, 114, 241, 242, 243, 244, 245, 246, 5, 247, 248, 249, 250, 251, 252, 135, 113, 136, 137, 138, 253, 254, 255, 256, 257, 258, 259, 260, 261, 262, 263, 264, 115, 116, 117, 118, 265, 266, 267, 268, 269, 270, 271, 272, 119, 273, 274, 122, 870, 871, 872, 873, 874, 875, 876, 877, 878, 879, 880, 881, 882, 883, 884, 885, 886, 887, 888, 889, 890, 891, 892, 893] (by decide +kernel) (by decide +kernel)
set_option maxRecDepth 20000 in
theorem gL_law_X8_council : GoodIn wsL_law (wsV RL 26 RX8 yX8_council wsX8_council) := goodIn_app (goodIn_of _ (by decide +kernel)) ggL_law_X8_council
set_option maxRecDepth 20000 in
theorem ggL_law_X7_thing : GoodIn wsL_law wsX7_thing := goodIn_r _ [278, 18, 279, 280, 281, 27, 282, 283, 284, 285, 31, 286, 287, 288, 2, 289, 290, 291, 292, 293, 294, 295, 296, 30, 297, 86, 298, 299, 300, 301, 302, 303, 304, 305, 306, 85, 307, 308, 309, 310, 311, 312, 313, 314, 315, 857, 858, 859, 860, 861, 862, 863, 864, 865, 866, 867, 868, 869, 894, 895, 896, 897, 898, 899, 900, 910, 911, 912, 913, 914, 915, 916, 917, 918] (by decide +kernel) (by decide +kernel)
set_option maxRecDepth 20000 in
theorem gL_law_X7_thing : GoodIn wsL_law (wsV RL 27 RX7 yX7_thing wsX7_thing) := goodIn_app (goodIn_of _ (by decide +kernel)) ggL_law_X7_thing
set_option maxRecDepth 20000 in
theorem ggL_law_X8_thing : GoodIn wsL_law wsX8_thing := goodIn_r _ [319, 134, 115, 116, 117, 119, 320, 321, 322, 5, 323, 114, 136, 137, 138, 324, 325, 326, 327, 870, 871, 872, 873, 874, 875, 876, 877, 878, 879, 880, 881, 882, 883, 884, 885, 886, 887, 888, 889, 890, 891, 892, 893] (by decide +kernel) (by decide +kernel)
set_option maxRecDepth 20000 in
theorem gL_law_X8_thing : GoodIn wsL_law (wsV RL 31 RX8 yX8_thing wsX8_thing) := goodIn_app (goodIn_of _ (by decide +kernel)) ggL_law_X8_thing
set_option maxRecDepth 20000 in
theorem ggL_law_X7_officer : GoodIn wsL_law wsX7_officer := goodIn_r _ [331, 27, 332, 31, 333, 334, 335, 2, 336, 18, 337, 291, 292, 293, 338, 312, 313, 30, 314, 85, 307, 86, 315, 339, 340, 341, 342, 343, 295, 296, 297, 298, 299, 300, 301, 302, 303, 304, 305, 306, 308, 309, 310, 311, 344, 345, 346, 347, 348, 857, 858, 859, 860, 861, 862, 863, 864, 865, 866, 867, 868, 869, 910, 911, 912, 913, 914, 915, 916, 894, 895, 896, 897, 898, 899, 900, 917, 918] (by decide +kernel) (by decide +kernel)
set_option maxRecDepth 20000 in
theorem gL_law_X7_officer : GoodIn wsL_law (wsV RL 32 RX7 yX7_officer wsX7_officer) := goodIn_app (goodIn_of _ (by decide +kernel)) ggL_law_X7_officer
set_option maxRecDepth 20000 in
theorem ggL_law_X8_officer : GoodIn wsL_law wsX8_officer := goodIn_r _ [352, 134, 119, 353, 354, 355, 5, 356, 114, 136, 137, 138, 357, 358, 359, 360, 361, 362, 363, 364, 324, 325, 326, 327, 115, 365, 366, 367, 368, 116, 870, 871, 872, 873, 874, 875, 876, 877, 878, 879, 880, 881, 882, 883, 884, 885, 886, 887, 888, 889, 890, 891, 892, 893] (by decide +kernel) (by decide +kernel)
set_option maxRecDepth 20000 in
theorem gL_law_X8_officer : GoodIn wsL_law (wsV RL 35 RX8 yX8_officer wsX8_officer) := goodIn_app (goodIn_of _ (by decide +kernel)) ggL_law_X8_officer
set_option maxRecDepth 20000 in
theorem ggL_law_X7_bill : GoodIn wsL_law wsX7_bill := goodIn_r _ [372, 31, 373, 374, 2, 375, 294, 295, 296, 30, 297, 86, 298, 299, 300, 301, 302, 303, 304, 305, 306, 85, 307, 308, 309, 310, 311, 312, 313, 314, 315, 292, 293, 376, 377, 378, 379, 380, 381, 382, 345, 346, 347, 348, 383, 384, 385, 386, 344, 857, 858, 859, 860, 861, 862, 863, 864, 865, 866, 867, 868, 869, 917, 918, 910, 911, 912, 913, 914, 915, 916, 894, 895, 896, 897, 898, 899, 900] (by decide +kernel) (by decide +kernel)
set_option maxRecDepth 20000 in
theorem gL_law_X7_bill : GoodIn wsL_law (wsV RL 36 RX7 yX7_bill wsX7_bill) := goodIn_app (goodIn_of _ (by decide +kernel)) ggL_law_X7_bill
set_option maxRecDepth 20000 in
theorem ggL_law_X8_bill : GoodIn wsL_law wsX8_bill := goodIn_r _ [390, 134, 119, 391, 392, 5, 393, 136, 137, 138, 361, 362, 363, 364, 114, 324, 325, 326, 327, 115, 394, 395, 396, 397, 117, 365, 366, 367, 368, 116, 398, 399, 400, 401, 402, 403, 404, 405, 870, 871, 872, 873, 874, 875, 876, 877, 878, 879, 880, 881, 882, 883, 884, 885, 886, 887, 888, 889, 890, 891, 892, 893] (by decide +kernel) (by decide +kernel)
set_option maxRecDepth 20000 in
theorem gL_law_X8_bill : GoodIn wsL_law (wsV RL 39 RX8 yX8_bill wsX8_bill) := goodIn_app (goodIn_of _ (by decide +kernel)) ggL_law_X8_bill
set_option maxRecDepth 20000 in
theorem ggL_law_X7_now : GoodIn wsL_law wsX7_now := goodIn_r _ [409, 27, 410, 411, 31, 332, 43, 412, 294, 295, 296, 30, 297, 86, 298, 299, 300, 301, 302, 303, 304, 305, 306, 85, 307, 308, 309, 310, 311, 312, 313, 314, 315, 292, 2, 293, 413, 414, 415, 416, 417, 418, 340, 341, 342, 343, 344, 345, 346, 347, 348, 857, 858, 859, 860, 861, 862, 863, 864, 865, 866, 867, 868, 869, 910, 911, 912, 913, 914, 915, 916, 924, 925, 926, 917, 918, 894, 895, 896, 897, 898, 899, 900] (by decide +kernel) (by decide +kernel)
set_option maxRecDepth 20000 in
theorem gL_law_X7_now : GoodIn wsL_law (wsV RL 40 RX7 yX7_now wsX7_now) := goodIn_app (goodIn_of _ (by decide +kernel)) ggL_law_X7_now
set_option maxRecDepth 20000 in
theorem ggL_law_X8_now : GoodIn wsL_law wsX8_now := goodIn_r _ [422, 134, 119, 274, 136, 137, 5, 138, 361, 362, 363, 364, 114, 324, 325, 326, 327, 115, 423, 424, 425, 426, 357, 358, 359, 360, 365, 366, 367, 368, 116, 870, 871, 872, 873, 874, 875, 876, 877, 878, 879, 880, 881, 882, 883, 884, 885, 886, 887, 888, 889, 890, 891, 892, 893] (by decide +kernel) (by decide +kernel)
set_option maxRecDepth 20000 in
theorem gL_law_X8_now : GoodIn wsL_law (wsV RL 43 RX8 yX8_now wsX8_now) := goodIn_app (goodIn_of _ (by decide +kernel)) ggL_law_X8_now
set_option maxRecDepth 20000 in
theorem ggL_law_X7_puts : GoodIn wsL_law wsX7_puts := goodIn_r _ [430, 27, 410, 43, 31, 411, 373, 374, 2, 375, 431, 432, 433, 42, 434, 106, 107, 108, 435, 160, 161, 162, 436, 437, 438, 26, 439, 74, 222, 214, 215, 216, 75, 76, 77, 78, 79, 80, 440, 441, 442, 30, 443, 343, 295, 296, 297, 86, 298, 299, 300, 301, 302, 303, 304, 305, 306, 85, 307, 308, 309, 310, 311, 312, 313, 314, 315, 292, 293, 444, 377, 378, 379, 380, 381, 445, 384, 385, 386, 344, 345, 346, 347, 348, 446, 447, 448, 449, 857, 858, 859, 860, 861, 862, 863, 864, 865, 866, 867, 868, 869, 910, 911, 912, 913, 914, 915, 916, 924, 925, 926, 917, 918, 894, 895, 896, 897, 898, 899, 900] (by decide +kernel) (by decide +kernel)
set_option maxRecDepth 20000 in
theorem gL_law_X7_puts : GoodIn wsL_law (wsV RL 44 RX7 yX7_puts wsX7_puts) := goodIn_app (goodIn_of _ (by decide +kernel)) ggL_law_X7_puts
set_option maxRecDepth 20000 in
theorem ggL_law_X8_puts : GoodIn wsL_law wsX8_puts := goodIn_r _ [453, 134, 119, 114, 391, 392, 5, 393, 136, 137, 138, 454, 455, 456, 457, 274, 123, 398, 399, 400, 401, 361, 362, 363, 364, 324, 325, 326, 327, 115, 394, 395, 396, 397, 117, 402, 403, 404, 405, 365, 366, 367, 368, 116, 870, 871, 872, 873, 874, 875, 876, 877, 878, 879, 880, 881, 882, 883, 884, 885, 886, 887, 888, 889, 890, 891, 892, 893] (by decide +kernel) (by decide +kernel)
set_option maxRecDepth 20000 in
theorem gL_law_X8_puts : GoodIn wsL_law (wsV RL 47 RX8 yX8_puts wsX8_puts) := goodIn_app (goodIn_of _ (by decide +kernel)) ggL_law_X8_puts
set_option maxRecDepth 20000 in
theorem ggL_law_X7_hands : GoodIn wsL_law wsX7_hands := goodIn_r _ [461, 43, 27, 282, 286, 287, 288, 2, 289, 18, 290, 333, 334, 335, 336, 337, 431, 432, 433, 42, 434, 106, 107, 108, 435, 160, 161, 162, 436, 437, 438, 26, 439, 74, 222, 214, 215, 216, 75, 76, 77, 78, 79, 80, 857, 858, 859, 860, 861, 862, 863, 864, 865, 866, 867, 868, 869, 910, 911, 912, 913, 914, 915, 916, 894, 895, 896, 897, 898, 899, 900, 924, 925, 926] (by decide +kernel) (by decide +kernel)
set_option maxRecDepth 20000 in
theorem gL_law_X7_hands : GoodIn wsL_law (wsV RL 48 RX7 yX7_hands wsX7_hands) := goodIn_app (goodIn_of _ (by decide +kernel)) ggL_law_X7_hands
set_option maxRecDepth 20000 in
theorem ggL_law_X8_hands : GoodIn wsL_law wsX8_hands := goodIn_r _ [465, 134, 119, 320, 321, 322, 5, 323, 114, 136, 137, 138, 353, 354, 355, 356, 454, 455, 456, 457, 274, 123, 870, 871, 872, 873, 874, 875, 876, 877, 878, 879, 880, 881, 882, 883, 884, 885, 886, 887, 888, 889, 890, 891, 892, 893] (by decide +kernel) (by decide +kernel)
set_option maxRecDepth 20000 in
theorem gL_law_X8_hands : GoodIn wsL_law (wsV RL 51 RX8 yX8_hands wsX8_hands) := goodIn_app (goodIn_of _ (by decide +kernel)) ggL_law_X8_hands
set_option maxRecDepth 20000 in
theorem ggL_law_X7_washes : GoodIn wsL_law wsX7_washes := goodIn_r _ [469, 27, 283, 43, 286, 287, 288, 2, 289, 18, 290, 291, 292, 293, 431, 432, 433, 42, 434, 106, 107, 108, 435, 160, 161, 162, 436, 437, 438, 26, 439, 74, 222, 214, 215, 216, 75, 76, 77, 78, 79, 80, 470, 471, 472, 473, 474, 475, 476, 857, 858, 859, 860, 861, 862, 863, 864, 865, 866, 867, 868, 869, 910, 911, 912, 913, 914, 915, 916, 894, 895, 896, 897, 898, 899, 900, 924, 925, 926] (by decide +kernel) (by decide +kernel)
set_option maxRecDepth 20000 in
theorem gL_law_X7_washes : GoodIn wsL_law (wsV RL 52 RX7 yX7_washes wsX7_washes) := goodIn_app (goodIn_of _ (by decide +kernel)) ggL_law_X7_washes
set_option maxRecDepth 20000 in
theorem ggL_law_X8_washes : GoodIn wsL_law wsX8_washes := goodIn_r _ [480, 134, 119, 320, 321, 322, 5, 323, 114, 136, 137, 138, 454, 455, 456, 457, 274, 123, 481, 482, 483, 870, 871, 872, 873, 874, 875, 876, 877, 878, 879, 880, 881, 882, 883, 884, 885, 886, 887, 888, 889, 890, 891, 892, 893] (by decide +kernel) (by decide +kernel)
set_option maxRecDepth 20000 in
theorem gL_law_X8_washes : GoodIn wsL_law (wsV RL 55 RX8 yX8_washes wsX8_washes) := goodIn_app (goodIn_of _ (by decide +kernel)) ggL_law_X8_washes
