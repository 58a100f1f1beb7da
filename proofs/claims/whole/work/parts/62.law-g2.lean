set_option maxRecDepth 20000 in
theorem ggL_law_X7_hangs : GoodIn wsL_law wsX7_hangs := goodIn_r _ [487, 27, 283, 43, 18, 279, 284, 286, 287, 288, 2, 289, 290, 291, 292, 293, 431, 432, 433, 42, 434, 106, 107, 108, 435, 160, 161, 162, 436, 437, 438, 26, 439, 74, 222, 214, 215, 216, 75, 76, 77, 78, 79, 80, 857, 858, 859, 860, 861, 862, 863, 864, 865, 866, 867, 868, 869, 910, 911, 912, 913, 914, 915, 916, 894, 895, 896, 897, 898, 899, 900, 924, 925, 926] (by decide +kernel) (by decide +kernel)
set_option maxRecDepth 20000 in
theorem gL_law_X7_hangs : GoodIn wsL_law (wsV RL 56 RX7 yX7_hangs wsX7_hangs) := goodIn_app (goodIn_of _ (by decide +kernel)) ggL_law_X7_hangs
set_option maxRecDepth 20000 in
theorem ggL_law_X8_hangs : GoodIn wsL_law wsX8_hangs := goodIn_r _ [491, 134, 119, 115, 320, 321, 322, 5, 323, 114, 136, 137, 138, 454, 455, 456, 457, 274, 123, 870, 871, 872, 873, 874, 875, 876, 877, 878, 879, 880, 881, 882, 883, 884, 885, 886, 887, 888, 889, 890, 891, 892, 893] (by decide +kernel) (by decide +kernel)
set_option maxRecDepth 20000 in
theorem gL_law_X8_hangs : GoodIn wsL_law (wsV RL 59 RX8 yX8_hangs wsX8_hangs) := goodIn_app (goodIn_of _ (by decide +kernel)) ggL_law_X8_hangs
set_option maxRecDepth 20000 in
theorem ggL_law_X7_warms : GoodIn wsL_law wsX7_warms := goodIn_r _ [495, 18, 279, 43, 27, 285, 496, 286, 287, 288, 2, 289, 290, 431, 432, 433, 42, 434, 106, 107, 108, 435, 160, 161, 162, 436, 437, 438, 26, 439, 74, 222, 214, 215, 216, 75, 76, 77, 78, 79, 80, 857, 858, 859, 860, 861, 862, 863, 864, 865, 866, 867, 868, 869, 894, 895, 896, 897, 898, 899, 900, 910, 911, 912, 913, 914, 915, 916, 924, 925, 926] (by decide +kernel) (by decide +kernel)
set_option maxRecDepth 20000 in
theorem gL_law_X7_warms : GoodIn wsL_law (wsV RL 60 RX7 yX7_warms wsX7_warms) := goodIn_app (goodIn_of _ (by decide +kernel)) ggL_law_X7_warms
set_option maxRecDepth 20000 in
theorem ggL_law_X8_warms : GoodIn wsL_law wsX8_warms := goodIn_r _ [500, 134, 115, 119, 114, 320, 321, 322, 5, 323, 136, 137, 138, 454, 455, 456, 457, 274, 123, 870, 871, 872, 873, 874, 875, 876, 877, 878, 879, 880, 881, 882, 883, 884, 885, 886, 887, 888, 889, 890, 891, 892, 893] (by decide +kernel) (by decide +kernel)
set_option maxRecDepth 20000 in
theorem gL_law_X8_warms : GoodIn wsL_law (wsV RL 63 RX8 yX8_warms wsX8_warms) := goodIn_app (goodIn_of _ (by decide +kernel)) ggL_law_X8_warms
set_option maxRecDepth 20000 in
theorem ggL_law_X7_sickens : GoodIn wsL_law wsX7_sickens := goodIn_r _ [504, 43, 27, 332, 333, 334, 335, 2, 336, 18, 337, 431, 432, 433, 42, 434, 106, 107, 108, 435, 160, 161, 162, 436, 437, 438, 26, 439, 74, 222, 214, 215, 216, 75, 76, 77, 78, 79, 80, 291, 292, 293, 857, 858, 859, 860, 861, 862, 863, 864, 865, 866, 867, 868, 869, 910, 911, 912, 913, 914, 915, 916, 894, 895, 896, 897, 898, 899, 900, 924, 925, 926] (by decide +kernel) (by decide +kernel)
set_option maxRecDepth 20000 in
theorem gL_law_X7_sickens : GoodIn wsL_law (wsV RL 64 RX7 yX7_sickens wsX7_sickens) := goodIn_app (goodIn_of _ (by decide +kernel)) ggL_law_X7_sickens
set_option maxRecDepth 20000 in
theorem ggL_law_X8_sickens : GoodIn wsL_law wsX8_sickens := goodIn_r _ [508, 134, 119, 353, 354, 355, 5, 356, 114, 136, 137, 138, 454, 455, 456, 457, 274, 123, 870, 871, 872, 873, 874, 875, 876, 877, 878, 879, 880, 881, 882, 883, 884, 885, 886, 887, 888, 889, 890, 891, 892, 893] (by decide +kernel) (by decide +kernel)
set_option maxRecDepth 20000 in
theorem gL_law_X8_sickens : GoodIn wsL_law (wsV RL 67 RX8 yX8_sickens wsX8_sickens) := goodIn_app (goodIn_of _ (by decide +kernel)) ggL_law_X8_sickens
set_option maxRecDepth 20000 in
theorem ggL_law_X7_undo : GoodIn wsL_law wsX7_undo := goodIn_r _ [512, 43, 412, 27, 513, 514, 515, 42, 516, 108, 107, 106, 436, 437, 438, 26, 439, 74, 222, 214, 215, 216, 75, 76, 77, 78, 79, 80, 857, 858, 859, 860, 861, 862, 863, 864, 865, 866, 867, 868, 869, 924, 925, 926, 910, 911, 912, 913, 914, 915, 916] (by decide +kernel) (by decide +kernel)
set_option maxRecDepth 20000 in
theorem gL_law_X7_undo : GoodIn wsL_law (wsV RL 68 RX7 yX7_undo wsX7_undo) := goodIn_app (goodIn_of _ (by decide +kernel)) ggL_law_X7_undo
set_option maxRecDepth 20000 in
theorem ggL_law_X8_undo : GoodIn wsL_law wsX8_undo := goodIn_r _ [520, 134, 274, 119, 123, 870, 871, 872, 873, 874, 875, 876, 877, 878, 879, 880, 881, 882, 883, 884, 885, 886, 887, 888, 889, 890, 891, 892, 893] (by decide +kernel) (by decide +kernel)
set_option maxRecDepth 20000 in
theorem gL_law_X8_undo : GoodIn wsL_law (wsV RL 71 RX8 yX8_undo wsX8_undo) := goodIn_app (goodIn_of _ (by decide +kernel)) ggL_law_X8_undo
set_option maxRecDepth 20000 in
theorem ggL_law_X7_power : GoodIn wsL_law wsX7_power := goodIn_r _ [524, 35, 31, 286, 287, 288, 2, 289, 18, 290, 525, 526, 527, 294, 295, 296, 30, 297, 86, 298, 299, 300, 301, 302, 303, 304, 305, 306, 85, 307, 308, 309, 310, 311, 312, 313, 314, 315, 292, 293, 528, 529, 530, 34, 531, 532, 533, 534, 535, 536, 537, 91, 538, 345, 346, 347, 348, 539, 471, 472, 473, 474, 475, 476, 540, 541, 542, 543, 544, 545, 546, 547, 548, 549, 550, 551, 552, 553, 554, 857, 858, 859, 860, 861, 862, 863, 864, 865, 866, 867, 868, 869, 894, 895, 896, 897, 898, 899, 900, 917, 918, 910, 911, 912, 913, 914, 915, 916, 919] (by decide +kernel) (by decide +kernel)
set_option maxRecDepth 20000 in
theorem gL_law_X7_power : GoodIn wsL_law (wsV RL 72 RX7 yX7_power wsX7_power) := goodIn_app (goodIn_of _ (by decide +kernel)) ggL_law_X7_power
set_option maxRecDepth 20000 in
theorem ggL_law_X8_power : GoodIn wsL_law wsX8_power := goodIn_r _ [558, 134, 119, 320, 321, 322, 5, 323, 114, 136, 137, 138, 324, 325, 326, 327, 115, 559, 560, 561, 562, 361, 362, 363, 364, 563, 564, 565, 566, 365, 366, 367, 368, 116, 481, 482, 483, 567, 568, 569, 570, 571, 572, 870, 871, 872, 873, 874, 875, 876, 877, 878, 879, 880, 881, 882, 883, 884, 885, 886, 887, 888, 889, 890, 891, 892, 893] (by decide +kernel) (by decide +kernel)
set_option maxRecDepth 20000 in
theorem gL_law_X8_power : GoodIn wsL_law (wsV RL 75 RX8 yX8_power wsX8_power) := goodIn_app (goodIn_of _ (by decide +kernel)) ggL_law_X8_power
set_option maxRecDepth 20000 in
theorem ggL_law_X7_least : GoodIn wsL_law wsX7_least := goodIn_r _ [576, 35, 525, 526, 2, 527, 577, 578, 579, 34, 580, 91, 548, 295, 296, 30, 297, 86, 298, 299, 300, 301, 302, 303, 304, 305, 306, 85, 307, 308, 309, 310, 311, 312, 313, 314, 315, 292, 293, 581, 582, 583, 584, 532, 533, 534, 535, 536, 537, 538, 345, 346, 347, 348, 585, 586, 587, 588, 857, 858, 859, 860, 861, 862, 863, 864, 865, 866, 867, 868, 869, 919, 917, 918, 910, 911, 912, 913, 914, 915, 916, 894, 895, 896, 897, 898, 899, 900] (by decide +kernel) (by decide +kernel)
set_option maxRecDepth 20000 in
theorem gL_law_X7_least : GoodIn wsL_law (wsV RL 76 RX7 yX7_least wsX7_least) := goodIn_app (goodIn_of _ (by decide +kernel)) ggL_law_X7_least
set_option maxRecDepth 20000 in
theorem ggL_law_X8_least : GoodIn wsL_law wsX8_least := goodIn_r _ [592, 134, 136, 137, 5, 138, 593, 594, 595, 596, 119, 114, 361, 362, 363, 364, 324, 325, 326, 327, 115, 563, 564, 565, 566, 365, 366, 367, 368, 116, 870, 871, 872, 873, 874, 875, 876, 877, 878, 879, 880, 881, 882, 883, 884, 885, 886, 887, 888, 889, 890, 891, 892, 893] (by decide +kernel) (by decide +kernel)
set_option maxRecDepth 20000 in
theorem gL_law_X8_least : GoodIn wsL_law (wsV RL 79 RX8 yX8_least wsX8_least) := goodIn_app (goodIn_of _ (by decide +kernel)) ggL_law_X8_least
set_option maxRecDepth 20000 in
theorem ggL_law_X7_dummies : GoodIn wsL_law wsX7_dummies := goodIn_r _ [600, 35, 601, 602, 603, 34, 604, 91, 548, 295, 296, 30, 297, 86, 298, 299, 300, 301, 302, 303, 304, 305, 306, 85, 307, 308, 309, 310, 311, 312, 313, 314, 315, 292, 2, 293, 605, 529, 530, 531, 532, 533, 534, 535, 536, 537, 538, 345, 346, 347, 348, 539, 471, 472, 473, 474, 475, 476, 540, 541, 542, 543, 857, 858, 859, 860, 861, 862, 863, 864, 865, 866, 867, 868, 869, 919, 917, 918, 910, 911, 912, 913, 914, 915, 916, 894, 895, 896, 897, 898, 899, 900] (by decide +kernel) (by decide +kernel)
set_option maxRecDepth 20000 in
theorem gL_law_X7_dummies : GoodIn wsL_law (wsV RL 80 RX7 yX7_dummies wsX7_dummies) := goodIn_app (goodIn_of _ (by decide +kernel)) ggL_law_X7_dummies
set_option maxRecDepth 20000 in
theorem ggL_law_X8_dummies : GoodIn wsL_law wsX8_dummies := goodIn_r _ [609, 134, 114, 119, 324, 325, 326, 5, 327, 115, 559, 560, 561, 562, 361, 362, 363, 364, 563, 564, 565, 566, 365, 366, 367, 368, 116, 481, 482, 483, 567, 568, 569, 870, 871, 872, 873, 874, 875, 876, 877, 878, 879, 880, 881, 882, 883, 884, 885, 886, 887, 888, 889, 890, 891, 892, 893] (by decide +kernel) (by decide +kernel)
set_option maxRecDepth 20000 in
theorem gL_law_X8_dummies : GoodIn wsL_law (wsV RL 83 RX8 yX8_dummies wsX8_dummies) := goodIn_app (goodIn_of _ (by decide +kernel)) ggL_law_X8_dummies
set_option maxRecDepth 20000 in
theorem ggL_law_X7_sways : GoodIn wsL_law wsX7_sways := goodIn_r _ [613, 31, 373, 374, 2, 375, 614, 615, 616, 30, 617, 85, 307, 343, 295, 296, 297, 86, 298, 299, 300, 301, 302, 303, 304, 305, 306, 308, 309, 310, 311, 312, 313, 314, 315, 292, 293, 444, 377, 378, 379, 380, 381, 445, 384, 385, 386, 344, 345, 346, 347, 348, 857, 858, 859, 860, 861, 862, 863, 864, 865, 866, 867, 868, 869, 917, 918, 894, 895, 896, 897, 898, 899, 900, 910, 911, 912, 913, 914, 915, 916] (by decide +kernel) (by decide +kernel)
set_option maxRecDepth 20000 in
theorem gL_law_X7_sways : GoodIn wsL_law (wsV RL 84 RX7 yX7_sways wsX7_sways) := goodIn_app (goodIn_of _ (by decide +kernel)) ggL_law_X7_sways
set_option maxRecDepth 20000 in
theorem ggL_law_X8_sways : GoodIn wsL_law wsX8_sways := goodIn_r _ [621, 134, 391, 392, 5, 393, 136, 137, 138, 622, 623, 624, 625, 119, 114, 361, 362, 363, 364, 324, 325, 326, 327, 115, 394, 395, 396, 397, 117, 402, 403, 404, 405, 365, 366, 367, 368, 116, 870, 871, 872, 873, 874, 875, 876, 877, 878, 879, 880, 881, 882, 883, 884, 885, 886, 887, 888, 889, 890, 891, 892, 893] (by decide +kernel) (by decide +kernel)
set_option maxRecDepth 20000 in
theorem gL_law_X8_sways : GoodIn wsL_law (wsV RL 87 RX8 yX8_sways wsX8_sways) := goodIn_app (goodIn_of _ (by decide +kernel)) ggL_law_X8_sways
set_option maxRecDepth 20000 in
theorem ggL_law_X7_free : GoodIn wsL_law wsX7_free := goodIn_r _ [629, 31, 294, 295, 296, 30, 297, 86, 298, 299, 300, 301, 302, 303, 304, 305, 306, 85, 307, 308, 309, 310, 311, 312, 313, 314, 315, 292, 2, 293, 614, 615, 616, 617, 343, 444, 377, 378, 379, 380, 381, 445, 384, 385, 386, 344, 345, 346, 347, 348, 857, 858, 859, 860, 861, 862, 863, 864, 865, 866, 867, 868, 869, 917, 918, 910, 911, 912, 913, 914, 915, 916, 894, 895, 896, 897, 898, 899, 900] (by decide +kernel) (by decide +kernel)
set_option maxRecDepth 20000 in
theorem gL_law_X7_free : GoodIn wsL_law (wsV RL 88 RX7 yX7_free wsX7_free) := goodIn_app (goodIn_of _ (by decide +kernel)) ggL_law_X7_free
set_option maxRecDepth 20000 in
theorem ggL_law_X8_free : GoodIn wsL_law wsX8_free := goodIn_r _ [633, 134, 119, 361, 362, 363, 5, 364, 114, 324, 325, 326, 327, 115, 622, 623, 624, 625, 394, 395, 396, 397, 117, 402, 403, 404, 405, 365, 366, 367, 368, 116, 870, 871, 872, 873, 874, 875, 876, 877, 878, 879, 880, 881, 882, 883, 884, 885, 886, 887, 888, 889, 890, 891, 892, 893] (by decide +kernel) (by decide +kernel)
set_option maxRecDepth 20000 in
theorem gL_law_X8_free : GoodIn wsL_law (wsV RL 91 RX8 yX8_free wsX8_free) := goodIn_app (goodIn_of _ (by decide +kernel)) ggL_law_X8_free
set_option maxRecDepth 20000 in
theorem ggL_law_X7_turn : GoodIn wsL_law wsX7_turn := goodIn_r _ [637, 31, 373, 374, 2, 375, 638, 639, 640, 30, 641, 343, 295, 296, 297, 86, 298, 299, 300, 301, 302, 303, 304, 305, 306, 85, 307, 308, 309, 310, 311, 312, 313, 314, 315, 292, 293, 444, 377, 378, 379, 380, 381, 532, 533, 642, 643, 644, 645, 471, 472, 473, 474, 475, 476, 445, 384, 385, 386, 344, 345, 346, 347, 348, 857, 858, 859, 860, 861, 862, 863, 864, 865, 866, 867, 868, 869, 917, 918, 910, 911, 912, 913, 914, 915, 916, 894, 895, 896, 897, 898, 899, 900] (by decide +kernel) (by decide +kernel)
set_option maxRecDepth 20000 in
theorem gL_law_X7_turn : GoodIn wsL_law (wsV RL 92 RX7 yX7_turn wsX7_turn) := goodIn_app (goodIn_of _ (by decide +kernel)) ggL_law_X7_turn
set_option maxRecDepth 20000 in
theorem ggL_law_X8_turn : GoodIn wsL_law wsX8_turn := goodIn_r _ [649, 134, 119, 391, 392, 5, 393, 136, 137, 138, 361, 362, 363, 364, 114, 324, 325, 326, 327, 115, 481, 482, 483, 394, 395, 396, 397, 117, 402, 403, 404, 405, 365, 366, 367, 368, 116, 870, 871, 872, 873, 874, 875, 876, 877, 878, 879, 880, 881, 882, 883, 884, 885, 886, 887, 888, 889, 890, 891, 892, 893] (by decide +kernel) (by decide +kernel)
set_option maxRecDepth 20000 in
theorem gL_law_X8_turn : GoodIn wsL_law (wsV RL 95 RX8 yX8_turn wsX8_turn) := goodIn_app (goodIn_of _ (by decide +kernel)) ggL_law_X8_turn
set_option maxRecDepth 20000 in
theorem ggL_law_X7_hand : GoodIn wsL_law wsX7_hand := goodIn_r _ [653, 31, 373, 374, 2, 375, 654, 655, 656, 30, 657, 86, 298, 303, 304, 305, 306, 85, 307, 308, 309, 310, 343, 295, 296, 297, 299, 300, 301, 302, 311, 312, 313, 314, 315, 292, 293, 444, 377, 378, 379, 380, 381, 658, 659, 660, 661, 417, 645, 471, 472, 473, 474, 475, 476, 532, 533, 642, 643, 644, 445, 384, 385, 386, 344, 345, 346, 347, 348, 857, 858, 859, 860, 861, 862, 863, 864, 865, 866, 867, 868, 869, 917, 918, 910, 911, 912, 913, 914, 915, 916, 894, 895, 896, 897, 898, 899, 900] (by decide +kernel) (by decide +kernel)
set_option maxRecDepth 20000 in
theorem gL_law_X7_hand : GoodIn wsL_law (wsV RL 96 RX7 yX7_hand wsX7_hand) := goodIn_app (goodIn_of _ (by decide +kernel)) ggL_law_X7_hand
set_option maxRecDepth 20000 in
theorem ggL_law_X8_hand : GoodIn wsL_law wsX8_hand := goodIn_r _ [665, 134, 114, 119, 120, 391, 392, 5, 393, 136, 137, 138, 357, 358, 359, 360, 481, 482, 483, 666, 667, 668, 669, 398, 399, 400, 401, 361, 362, 363, 364, 324, 325, 326, 327, 115, 394, 395, 396, 397, 117, 402, 403, 404, 405, 365, 366, 367, 368, 116, 870, 871, 872, 873, 874, 875, 876, 877, 878, 879, 880, 881, 882, 883, 884, 885, 886, 887, 888, 889, 890, 891, 892, 893] (by decide +kernel) (by decide +kernel)
set_option maxRecDepth 20000 in
theorem gL_law_X8_hand : GoodIn wsL_law (wsV RL 99 RX8 yX8_hand wsX8_hand) := goodIn_app (goodIn_of _ (by decide +kernel)) ggL_law_X8_hand
