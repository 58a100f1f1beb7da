/-! the words of the law, by their places in the tables -/
theorem mem_pl {big ws : List Cond} (ps : List Nat) (h : ws.map some = ps.map (fun i => big[i]?)) : ∀ w ∈ ws, w ∈ big := by
  intro w hw
  have h1 : some w ∈ ws.map some := List.mem_map.mpr ⟨w, hw, rfl⟩
  rw [h] at h1
  obtain ⟨i, -, hi⟩ := List.mem_map.mp h1
  exact List.mem_of_getElem? hi
set_option maxRecDepth 100000 in
theorem inr_1 : ∀ w ∈ wsL_law_r1, w ∈ lw_tbl := mem_pl [62, 63, 49, 740, 741, 57, 64, 65, 66, 67, 68, 69, 114, 255, 256, 70, 71, 50, 257, 258, 116, 117, 51, 259] (by decide +kernel)
set_option maxRecDepth 100000 in
theorem inr_2 : ∀ w ∈ wsL_law_r2, w ∈ lw_tbl := mem_pl [150, 151, 52, 260, 190, 191, 53, 261, 204, 205, 54, 262, 214, 215, 55, 263, 235, 236, 56, 264, 265, 266, 267, 73] (by decide +kernel)
set_option maxRecDepth 100000 in
theorem inr_3 : ∀ w ∈ wsL_law_r3, w ∈ lw_tbl := mem_pl [74, 75, 76, 80, 85, 115, 88, 91, 94, 97, 118, 119, 120, 121, 124, 125, 126, 127, 128, 129, 130, 122, 123, 153] (by decide +kernel)
set_option maxRecDepth 100000 in
theorem inr_4 : ∀ w ∈ wsL_law_r4, w ∈ lw_tbl := mem_pl [154, 155, 156, 159, 162, 165, 168, 171, 173, 192, 193, 194, 195, 196, 198, 206, 207, 208, 209, 210, 216, 217, 218, 219] (by decide +kernel)
set_option maxRecDepth 100000 in
theorem inr_5 : ∀ w ∈ wsL_law_r5, w ∈ lw_tbl := mem_pl [221, 234, 222, 223, 220, 237, 238, 239, 240, 241, 244, 245, 246, 742, 743, 744, 745, 748, 755, 756, 757, 758, 759, 761] (by decide +kernel)
set_option maxRecDepth 100000 in
theorem inr_6 : ∀ w ∈ wsL_law_r6, w ∈ lw_tbl := mem_pl [762, 763, 764, 765, 767, 768, 295, 296, 297, 298, 819, 820, 821, 822, 746, 749, 823, 824, 825, 299, 300, 301, 302, 826] (by decide +kernel)
set_option maxRecDepth 100000 in
theorem inr_7 : ∀ w ∈ wsL_law_r7, w ∈ lw_tbl := mem_pl [827, 828, 829, 303, 304, 305, 306, 307, 308, 309, 310, 311, 313, 0, 314, 315, 316, 58, 317, 318, 319, 320, 321, 322] (by decide +kernel)
set_option maxRecDepth 100000 in
theorem inr_8 : ∀ w ∈ wsL_law_r8, w ∈ lw_tbl := mem_pl [324, 1, 325, 326, 327, 328, 329, 331, 2, 332, 333, 335, 3, 336, 81, 337, 339, 4, 340, 341, 343, 5, 344, 345] (by decide +kernel)
set_option maxRecDepth 100000 in
theorem inr_9 : ∀ w ∈ wsL_law_r9, w ∈ lw_tbl := mem_pl [347, 6, 348, 78, 349, 350, 351, 352, 353, 355, 7, 356, 86, 357, 359, 8, 360, 361, 362, 363, 364, 365, 367, 366] (by decide +kernel)
set_option maxRecDepth 100000 in
theorem inr_10 : ∀ w ∈ wsL_law_r10, w ∈ lw_tbl := mem_pl [59, 368, 369, 370, 371, 98, 372, 373, 374, 60, 375, 376, 377, 378, 379, 380, 381, 382, 383, 830, 831, 832, 833, 754] (by decide +kernel)
set_option maxRecDepth 100000 in
theorem inr_11 : ∀ w ∈ wsL_law_r11, w ∈ lw_tbl := mem_pl [750, 760, 751, 753, 834, 836, 24, 837, 752, 838, 840, 25, 841, 842, 844, 26, 845, 846, 848, 27, 849, 850, 852, 28] (by decide +kernel)
set_option maxRecDepth 100000 in
theorem inr_12 : ∀ w ∈ wsL_law_r12, w ∈ lw_tbl := mem_pl [853, 854, 856, 29, 857, 858, 860, 30, 861, 769, 766, 384, 385, 386, 387, 90, 92, 95, 158, 164, 166, 161, 388, 390] (by decide +kernel)
set_option maxRecDepth 100000 in
theorem inr_13 : ∀ w ∈ wsL_law_r13, w ∈ lw_tbl := mem_pl [9, 391, 79, 392, 393, 394, 395, 396, 397, 398, 169, 399, 400, 401, 402, 403, 405, 10, 406, 77, 89, 160, 163, 407] (by decide +kernel)
set_option maxRecDepth 100000 in
theorem inr_14 : ∀ w ∈ wsL_law_r14, w ∈ lw_tbl := mem_pl [408, 409, 410, 157, 862, 863, 864, 865, 866, 868, 31, 869, 870, 872, 32, 873, 412, 413, 414, 415, 170, 416, 418, 11] (by decide +kernel)
set_option maxRecDepth 100000 in
theorem inr_15 : ∀ w ∈ wsL_law_r15, w ∈ lw_tbl := mem_pl [419, 84, 420, 421, 422, 423, 424, 425, 426, 427, 428, 429, 93, 874, 875, 876, 877, 878, 880, 33, 881, 882, 884, 34] (by decide +kernel)
set_option maxRecDepth 100000 in
theorem inr_16 : ∀ w ∈ wsL_law_r16, w ∈ lw_tbl := mem_pl [885, 886, 888, 35, 889, 890, 892, 36, 893, 430, 431, 432, 433, 434, 435, 436, 437, 438, 439, 440, 96, 167, 441, 442] (by decide +kernel)
set_option maxRecDepth 100000 in
theorem inr_17 : ∀ w ∈ wsL_law_r17, w ∈ lw_tbl := mem_pl [443, 444, 445, 894, 895, 896, 897, 898, 899, 900, 901, 903, 37, 904, 905, 907, 38, 908, 909, 911, 39, 912, 446, 447] (by decide +kernel)
set_option maxRecDepth 100000 in
theorem inr_18 : ∀ w ∈ wsL_law_r18, w ∈ lw_tbl := mem_pl [448, 449, 172, 174, 247, 450, 451, 452, 453, 83, 454, 913, 914, 915, 916, 917, 919, 40, 920, 455, 456, 457, 458, 459] (by decide +kernel)
set_option maxRecDepth 100000 in
theorem inr_19 : ∀ w ∈ wsL_law_r19, w ∈ lw_tbl := mem_pl [460, 461, 462, 467, 463, 464, 465, 466, 468, 469, 470, 471, 472, 473, 474, 475, 476, 477, 921, 922, 923, 924, 925, 927] (by decide +kernel)
set_option maxRecDepth 100000 in
theorem inr_20 : ∀ w ∈ wsL_law_r20, w ∈ lw_tbl := mem_pl [41, 928, 478, 479, 480, 481, 929, 930, 931, 932, 482, 483, 484, 485, 486, 487, 61, 488, 489, 490, 491, 933, 934, 935] (by decide +kernel)
set_option maxRecDepth 100000 in
theorem inr_21 : ∀ w ∈ wsL_law_r21, w ∈ lw_tbl := mem_pl [936, 937, 938, 939, 492, 493, 494, 495, 940, 941, 942, 943, 496, 497, 498, 499, 87, 944, 945, 946, 947, 500, 501, 502] (by decide +kernel)
set_option maxRecDepth 100000 in
theorem inr_22 : ∀ w ∈ wsL_law_r22, w ∈ lw_tbl := mem_pl [503, 948, 949, 950, 951, 504, 505, 506, 507, 508, 509, 510, 511, 952, 953, 954, 955, 512, 513, 514, 515, 516, 517, 518] (by decide +kernel)
set_option maxRecDepth 100000 in
theorem inr_23 : ∀ w ∈ wsL_law_r23, w ∈ lw_tbl := mem_pl [519, 520, 521, 522, 524, 525, 526, 528, 12, 529, 530, 531, 532, 533, 534, 535, 537, 538, 539, 540, 541, 542, 543, 544] (by decide +kernel)
set_option maxRecDepth 100000 in
theorem inr_24 : ∀ w ∈ wsL_law_r24, w ∈ lw_tbl := mem_pl [545, 546, 547, 956, 957, 958, 959, 960, 962, 42, 963, 964, 966, 43, 967, 968, 969, 970, 971, 972, 973, 548, 549, 550] (by decide +kernel)
set_option maxRecDepth 100000 in
theorem inr_25 : ∀ w ∈ wsL_law_r25, w ∈ lw_tbl := mem_pl [551, 552, 553, 554, 555, 556, 558, 13, 559, 561, 562, 563, 564, 974, 975, 976, 977, 978, 980, 44, 981, 565, 566, 567] (by decide +kernel)
set_option maxRecDepth 100000 in
theorem inr_26 : ∀ w ∈ wsL_law_r26, w ∈ lw_tbl := mem_pl [568, 569, 570, 571, 572, 573, 982, 983, 984, 985, 574, 575, 576, 577, 578, 579, 580, 581, 986, 987, 988, 989, 990, 992] (by decide +kernel)
set_option maxRecDepth 100000 in
theorem inr_27 : ∀ w ∈ wsL_law_r27, w ∈ lw_tbl := mem_pl [45, 993, 582, 583, 584, 585, 994, 995, 996, 997, 586, 587, 588, 589, 590, 591, 592, 593, 595, 596, 597, 598, 998, 999] (by decide +kernel)
set_option maxRecDepth 100000 in
theorem inr_28 : ∀ w ∈ wsL_law_r28, w ∈ lw_tbl := mem_pl [1000, 1001, 599, 600, 601, 602, 603, 604, 605, 606, 607, 609, 14, 610, 1002, 1003, 1004, 1005, 1006, 1008, 46, 1009, 611, 612] (by decide +kernel)
set_option maxRecDepth 100000 in
theorem inr_29 : ∀ w ∈ wsL_law_r29, w ∈ lw_tbl := mem_pl [613, 614, 615, 616, 617, 618, 619, 620, 621, 1010, 1011, 1012, 1013, 622, 623, 624, 625, 224, 626, 627, 628, 629, 1014, 1015] (by decide +kernel)
set_option maxRecDepth 100000 in
theorem inr_30 : ∀ w ∈ wsL_law_r30, w ∈ lw_tbl := mem_pl [1016, 1017, 630, 631, 632, 633, 1018, 1019, 1020, 1021, 634, 635, 636, 637, 638, 639, 640, 641, 642, 643, 645, 15, 646, 647] (by decide +kernel)
set_option maxRecDepth 100000 in
theorem inr_31 : ∀ w ∈ wsL_law_r31, w ∈ lw_tbl := mem_pl [648, 649, 650, 651, 652, 653, 654, 655, 1022, 1023, 1024, 1025, 1026, 1028, 47, 1029, 656, 657, 658, 659, 660, 661, 662, 663] (by decide +kernel)
set_option maxRecDepth 100000 in
theorem inr_32 : ∀ w ∈ wsL_law_r32, w ∈ lw_tbl := mem_pl [197, 82, 664, 666, 16, 667, 668, 669, 1030, 1031, 1032, 1033, 670, 671, 672, 673, 674, 675, 676, 677, 678, 680, 17, 681] (by decide +kernel)
set_option maxRecDepth 100000 in
theorem inr_33 : ∀ w ∈ wsL_law_r33, w ∈ lw_tbl := mem_pl [682, 683, 684, 685, 1034, 1035, 1036, 1037, 686, 687, 688, 689, 690, 691, 693, 18, 694, 695, 697, 19, 698, 699, 700, 702] (by decide +kernel)
set_option maxRecDepth 100000 in
theorem inr_34 : ∀ w ∈ wsL_law_r34, w ∈ lw_tbl := mem_pl [20, 703, 704, 705, 707, 21, 708, 709, 710, 712, 22, 713, 714, 715, 717, 23, 718, 719, 1038, 1039, 1040, 1041, 1042, 747] (by decide +kernel)
set_option maxRecDepth 100000 in
theorem inr_35 : ∀ w ∈ wsL_law_r35, w ∈ lw_tbl := mem_pl [1043, 1044, 1045, 1046, 1047, 720, 721, 722, 723, 724, 725, 726, 727, 1048, 1049, 1050, 1051, 728, 729, 730, 731, 1052, 1053, 1054] (by decide +kernel)
set_option maxRecDepth 100000 in
theorem inr_36 : ∀ w ∈ wsL_law_r36, w ∈ lw_tbl := mem_pl [1055, 732, 733, 734, 735, 1056, 1057, 1058, 1059, 736, 737, 738, 739, 1060, 1061, 1062, 1063] (by decide +kernel)
set_option maxRecDepth 100000 in
theorem inu_0 : ∀ w ∈ wsX00, w ∈ lw_tbl := mem_pl [99, 101, 103, 105, 107, 109, 111] (by decide +kernel)
set_option maxRecDepth 100000 in
theorem inu_1 : ∀ w ∈ wsX10, w ∈ lw_tbl := mem_pl [225, 227, 229, 231] (by decide +kernel)
set_option maxRecDepth 100000 in
theorem inu_2 : ∀ w ∈ wsX20, w ∈ lw_tbl := mem_pl [175, 177, 179, 181, 183, 185, 187] (by decide +kernel)
set_option maxRecDepth 100000 in
theorem inu_3 : ∀ w ∈ wsX30, w ∈ lw_tbl := mem_pl [248, 250, 252] (by decide +kernel)
set_option maxRecDepth 100000 in
theorem inu_4 : ∀ w ∈ wsX40, w ∈ lw_tbl := mem_pl [211] (by decide +kernel)
set_option maxRecDepth 100000 in
theorem inu_5 : ∀ w ∈ wsX50, w ∈ lw_tbl := mem_pl [131, 133, 135, 137, 139, 141, 143, 145, 147] (by decide +kernel)
set_option maxRecDepth 100000 in
theorem inu_6 : ∀ w ∈ wsX60, w ∈ lw_tbl := mem_pl [199, 201] (by decide +kernel)
set_option maxRecDepth 100000 in
theorem inu_7 : ∀ w ∈ wsX70, w ∈ lw_tbl := mem_pl [268, 270, 272, 274, 276, 278, 280, 282, 284, 286, 288, 290, 292] (by decide +kernel)
set_option maxRecDepth 100000 in
theorem inu_8 : ∀ w ∈ wsX80, w ∈ lw_tbl := mem_pl [770, 772, 774, 776, 778, 780, 782, 784, 786, 788, 790, 792, 794, 796, 798, 800, 802, 804, 806, 808, 810, 812, 814, 816] (by decide +kernel)
theorem wsL_law_in : ∀ w ∈ wsL_law, w ∈ lw_tbl := (List.forall_mem_append.mpr ⟨(List.forall_mem_append.mpr ⟨(List.forall_mem_append.mpr ⟨(List.forall_mem_append.mpr ⟨(List.forall_mem_append.mpr ⟨(List.forall_mem_append.mpr ⟨(List.forall_mem_append.mpr ⟨(List.forall_mem_append.mpr ⟨(List.forall_mem_append.mpr ⟨(List.forall_mem_append.mpr ⟨(List.forall_mem_append.mpr ⟨inr_1, List.forall_mem_append.mpr ⟨inr_2, List.forall_mem_append.mpr ⟨inr_3, List.forall_mem_append.mpr ⟨inr_4, List.forall_mem_append.mpr ⟨inr_5, List.forall_mem_append.mpr ⟨inr_6, List.forall_mem_append.mpr ⟨inr_7, List.forall_mem_append.mpr ⟨inr_8, List.forall_mem_append.mpr ⟨inr_9, List.forall_mem_append.mpr ⟨inr_10, List.forall_mem_append.mpr ⟨inr_11, List.forall_mem_append.mpr ⟨inr_12, List.forall_mem_append.mpr ⟨inr_13, List.forall_mem_append.mpr ⟨inr_14, List.forall_mem_append.mpr ⟨inr_15, List.forall_mem_append.mpr ⟨inr_16, List.forall_mem_append.mpr ⟨inr_17, List.forall_mem_append.mpr ⟨inr_18, List.forall_mem_append.mpr ⟨inr_19, List.forall_mem_append.mpr ⟨inr_20, List.forall_mem_append.mpr ⟨inr_21, List.forall_mem_append.mpr ⟨inr_22, List.forall_mem_append.mpr ⟨inr_23, List.forall_mem_append.mpr ⟨inr_24, List.forall_mem_append.mpr ⟨inr_25, List.forall_mem_append.mpr ⟨inr_26, List.forall_mem_append.mpr ⟨inr_27, List.forall_mem_append.mpr ⟨inr_28, List.forall_mem_append.mpr ⟨inr_29, List.forall_mem_append.mpr ⟨inr_30, List.forall_mem_append.mpr ⟨inr_31, List.forall_mem_append.mpr ⟨inr_32, List.forall_mem_append.mpr ⟨inr_33, List.forall_mem_append.mpr ⟨inr_34, List.forall_mem_append.mpr ⟨inr_35, inr_36⟩⟩⟩⟩⟩⟩⟩⟩⟩⟩⟩⟩⟩⟩⟩⟩⟩⟩⟩⟩⟩⟩⟩⟩⟩⟩⟩⟩⟩⟩⟩⟩⟩⟩⟩), inu_7⟩), inu_8⟩), inu_0⟩), inu_5⟩), inu_2⟩), inu_6⟩), inu_4⟩), inu_1⟩), inu_3⟩), fun _ h => absurd h List.not_mem_nil⟩)
