theorem dX6_changingSwaps_108 : decode cX6_changingSwaps 108 = .ok (.iload 9, 2) := by decide +kernel
theorem dX6_changingSwaps_110 : decode cX6_changingSwaps 110 = .ok (.iand, 1) := by decide +kernel
theorem dX6_changingSwaps_111 : decode cX6_changingSwaps 111 = .ok (.iload 4, 2) := by decide +kernel
theorem dX6_changingSwaps_113 : decode cX6_changingSwaps 113 = .ok (.invokevirtual 76, 3) := by decide +kernel
theorem dX6_changingSwaps_116 : decode cX6_changingSwaps 116 = .ok (.iload 5, 2) := by decide +kernel
theorem dX6_changingSwaps_118 : decode cX6_changingSwaps 118 = .ok (.if_icmp .eq 6, 3) := by decide +kernel
theorem dX6_changingSwaps_121 : decode cX6_changingSwaps 121 = .ok (.iinc 6 1, 3) := by decide +kernel
theorem dX6_changingSwaps_124 : decode cX6_changingSwaps 124 = .ok (.iinc 8 1, 3) := by decide +kernel
theorem dX6_changingSwaps_127 : decode cX6_changingSwaps 127 = .ok (.goto (-66), 3) := by decide +kernel
theorem dX6_changingSwaps_130 : decode cX6_changingSwaps 130 = .ok (.iinc 7 1, 3) := by decide +kernel
theorem dX6_changingSwaps_133 : decode cX6_changingSwaps 133 = .ok (.goto (-90), 3) := by decide +kernel
theorem dX6_changingSwaps_136 : decode cX6_changingSwaps 136 = .ok (.iload 6, 2) := by decide +kernel
theorem dX6_changingSwaps_138 : decode cX6_changingSwaps 138 = .ok (.ireturn, 1) := by decide +kernel
set_option maxRecDepth 20000 in
theorem ggX6_exchanged_X7_bit : GoodIn wsX6_exchanged wsX7_bit := goodIn_r _ [3] (by decide +kernel) (by decide +kernel)
set_option maxRecDepth 20000 in
theorem gX6_exchanged_X7_bit_n40 : GoodIn wsX6_exchanged (wsX7_bit) := ggX6_exchanged_X7_bit
theorem dX6_exchanged_0 : decode cX6_exchanged 0 = .ok (.iload_n 0, 1) := by decide +kernel
theorem dX6_exchanged_1 : decode cX6_exchanged 1 = .ok (.iload_n 1, 1) := by decide +kernel
theorem dX6_exchanged_2 : decode cX6_exchanged 2 = .ok (.invokestatic 40, 3) := by decide +kernel
theorem dX6_exchanged_5 : decode cX6_exchanged 5 = .ok (.iload_n 0, 1) := by decide +kernel
theorem dX6_exchanged_6 : decode cX6_exchanged 6 = .ok (.iload_n 2, 1) := by decide +kernel
theorem dX6_exchanged_7 : decode cX6_exchanged 7 = .ok (.invokestatic 40, 3) := by decide +kernel
theorem dX6_exchanged_10 : decode cX6_exchanged 10 = .ok (.ixor, 1) := by decide +kernel
theorem dX6_exchanged_11 : decode cX6_exchanged 11 = .ok (.istore_n 3, 1) := by decide +kernel
theorem dX6_exchanged_12 : decode cX6_exchanged 12 = .ok (.iload_n 0, 1) := by decide +kernel
theorem dX6_exchanged_13 : decode cX6_exchanged 13 = .ok (.iload_n 3, 1) := by decide +kernel
theorem dX6_exchanged_14 : decode cX6_exchanged 14 = .ok (.iload_n 1, 1) := by decide +kernel
theorem dX6_exchanged_15 : decode cX6_exchanged 15 = .ok (.ishl, 1) := by decide +kernel
theorem dX6_exchanged_16 : decode cX6_exchanged 16 = .ok (.ixor, 1) := by decide +kernel
theorem dX6_exchanged_17 : decode cX6_exchanged 17 = .ok (.iload_n 3, 1) := by decide +kernel
theorem dX6_exchanged_18 : decode cX6_exchanged 18 = .ok (.iload_n 2, 1) := by decide +kernel
theorem dX6_exchanged_19 : decode cX6_exchanged 19 = .ok (.ishl, 1) := by decide +kernel
theorem dX6_exchanged_20 : decode cX6_exchanged 20 = .ok (.ixor, 1) := by decide +kernel
theorem dX6_exchanged_21 : decode cX6_exchanged 21 = .ok (.ireturn, 1) := by decide +kernel
theorem dX6_chances_0 : decode cX6_chances 0 = .ok (.iconst 1, 1) := by decide +kernel
theorem dX6_chances_1 : decode cX6_chances 1 = .ok (.istore_n 1, 1) := by decide +kernel
theorem dX6_chances_2 : decode cX6_chances 2 = .ok (.iconst 0, 1) := by decide +kernel
theorem dX6_chances_3 : decode cX6_chances 3 = .ok (.istore_n 2, 1) := by decide +kernel
theorem dX6_chances_4 : decode cX6_chances 4 = .ok (.iload_n 2, 1) := by decide +kernel
theorem dX6_chances_5 : decode cX6_chances 5 = .ok (.aload_n 0, 1) := by decide +kernel
theorem dX6_chances_6 : decode cX6_chances 6 = .ok (.getfield 9, 3) := by decide +kernel
theorem dX6_chances_9 : decode cX6_chances 9 = .ok (.getfield 83, 3) := by decide +kernel
theorem dX6_chances_12 : decode cX6_chances 12 = .ok (.if_icmp .ge 14, 3) := by decide +kernel
theorem dX6_chances_15 : decode cX6_chances 15 = .ok (.iload_n 1, 1) := by decide +kernel
theorem dX6_chances_16 : decode cX6_chances 16 = .ok (.bipush 10, 2) := by decide +kernel
theorem dX6_chances_18 : decode cX6_chances 18 = .ok (.imul, 1) := by decide +kernel
theorem dX6_chances_19 : decode cX6_chances 19 = .ok (.istore_n 1, 1) := by decide +kernel
theorem dX6_chances_20 : decode cX6_chances 20 = .ok (.iinc 2 1, 3) := by decide +kernel
theorem dX6_chances_23 : decode cX6_chances 23 = .ok (.goto (-19), 3) := by decide +kernel
theorem dX6_chances_26 : decode cX6_chances 26 = .ok (.iload_n 1, 1) := by decide +kernel
theorem dX6_chances_27 : decode cX6_chances 27 = .ok (.ireturn, 1) := by decide +kernel
set_option maxRecDepth 20000 in
theorem ggX6_chancesToPass_X6_yesOf : GoodIn wsX6_chancesToPass wsX6_yesOf := goodIn_r _ [7, 1, 8, 9, 10, 11, 12, 13, 14, 44, 45, 46, 47, 48, 49, 50, 51, 52, 53, 54, 55, 56, 57, 58, 59] (by decide +kernel) (by decide +kernel)
set_option maxRecDepth 20000 in
theorem gX6_chancesToPass_X6_yesOf : GoodIn wsX6_chancesToPass (wsV RX6 67 RX6 yX6_yesOf wsX6_yesOf) := goodIn_app (goodIn_of _ (by decide +kernel)) ggX6_chancesToPass_X6_yesOf
set_option maxRecDepth 20000 in
theorem ggX6_chancesToPass_X6_voicesIfSick : GoodIn wsX6_chancesToPass wsX6_voicesIfSick := goodIn_r _ [18, 19, 20, 21, 6, 22, 1, 8, 23, 10, 24, 25, 26, 27, 28, 29, 30, 12, 13, 14, 44, 45, 46, 47, 48, 49, 50, 51, 52, 53, 54, 55, 56, 57, 58, 59] (by decide +kernel) (by decide +kernel)
set_option maxRecDepth 20000 in
theorem gX6_chancesToPass_X6_voicesIfSick : GoodIn wsX6_chancesToPass (wsV RX6 47 RX6 yX6_voicesIfSick wsX6_voicesIfSick) := goodIn_app (goodIn_of _ (by decide +kernel)) ggX6_chancesToPass_X6_voicesIfSick
set_option maxRecDepth 20000 in
theorem ggX6_chancesToPass_X6_passesBy : GoodIn wsX6_chancesToPass wsX6_passesBy := goodIn_r _ [34, 35, 36, 37, 6, 38, 1, 8, 39, 12, 13, 14, 44, 45, 46, 47, 48, 49, 50, 51, 52] (by decide +kernel) (by decide +kernel)
set_option maxRecDepth 20000 in
theorem gX6_chancesToPass_X6_passesBy : GoodIn wsX6_chancesToPass (wsV RX6 76 RX6 yX6_passesBy wsX6_passesBy) := goodIn_app (goodIn_of _ (by decide +kernel)) ggX6_chancesToPass_X6_passesBy
set_option maxRecDepth 20000 in
theorem ggX6_chancesToPass_X6_chancesOfSick : GoodIn wsX6_chancesToPass wsX6_chancesOfSick := goodIn_r _ [43, 1, 2, 12, 13, 14, 44, 45, 46, 47, 48, 49, 50, 51, 52] (by decide +kernel) (by decide +kernel)
set_option maxRecDepth 20000 in
theorem gX6_chancesToPass_X6_chancesOfSick : GoodIn wsX6_chancesToPass (wsV RX6 105 RX6 yX6_chancesOfSick wsX6_chancesOfSick) := goodIn_app (goodIn_of _ (by decide +kernel)) ggX6_chancesToPass_X6_chancesOfSick
theorem dX6_chancesToPass_0 : decode cX6_chancesToPass 0 = .ok (.aload_n 0, 1) := by decide +kernel
theorem dX6_chancesToPass_1 : decode cX6_chancesToPass 1 = .ok (.iload_n 1, 1) := by decide +kernel
theorem dX6_chancesToPass_2 : decode cX6_chancesToPass 2 = .ok (.invokevirtual 67, 3) := by decide +kernel
theorem dX6_chancesToPass_5 : decode cX6_chancesToPass 5 = .ok (.istore_n 3, 1) := by decide +kernel
theorem dX6_chancesToPass_6 : decode cX6_chancesToPass 6 = .ok (.iconst 0, 1) := by decide +kernel
theorem dX6_chancesToPass_7 : decode cX6_chancesToPass 7 = .ok (.istore 4, 2) := by decide +kernel
theorem dX6_chancesToPass_9 : decode cX6_chancesToPass 9 = .ok (.iconst 0, 1) := by decide +kernel
theorem dX6_chancesToPass_10 : decode cX6_chancesToPass 10 = .ok (.istore 5, 2) := by decide +kernel
theorem dX6_chancesToPass_12 : decode cX6_chancesToPass 12 = .ok (.iload 5, 2) := by decide +kernel
theorem dX6_chancesToPass_14 : decode cX6_chancesToPass 14 = .ok (.iconst 1, 1) := by decide +kernel
theorem dX6_chancesToPass_15 : decode cX6_chancesToPass 15 = .ok (.aload_n 0, 1) := by decide +kernel
theorem dX6_chancesToPass_16 : decode cX6_chancesToPass 16 = .ok (.getfield 9, 3) := by decide +kernel
theorem dX6_chancesToPass_19 : decode cX6_chancesToPass 19 = .ok (.getfield 83, 3) := by decide +kernel
theorem dX6_chancesToPass_22 : decode cX6_chancesToPass 22 = .ok (.ishl, 1) := by decide +kernel
theorem dX6_chancesToPass_23 : decode cX6_chancesToPass 23 = .ok (.if_icmp .ge 35, 3) := by decide +kernel
theorem dX6_chancesToPass_26 : decode cX6_chancesToPass 26 = .ok (.aload_n 0, 1) := by decide +kernel
theorem dX6_chancesToPass_27 : decode cX6_chancesToPass 27 = .ok (.aload_n 0, 1) := by decide +kernel
theorem dX6_chancesToPass_28 : decode cX6_chancesToPass 28 = .ok (.iload 5, 2) := by decide +kernel
theorem dX6_chancesToPass_30 : decode cX6_chancesToPass 30 = .ok (.invokevirtual 47, 3) := by decide +kernel
theorem dX6_chancesToPass_33 : decode cX6_chancesToPass 33 = .ok (.iload_n 3, 1) := by decide +kernel
theorem dX6_chancesToPass_34 : decode cX6_chancesToPass 34 = .ok (.invokevirtual 76, 3) := by decide +kernel
theorem dX6_chancesToPass_37 : decode cX6_chancesToPass 37 = .ok (.ifCond .eq 15, 3) := by decide +kernel
theorem dX6_chancesToPass_40 : decode cX6_chancesToPass 40 = .ok (.iload 4, 2) := by decide +kernel
theorem dX6_chancesToPass_42 : decode cX6_chancesToPass 42 = .ok (.aload_n 0, 1) := by decide +kernel
theorem dX6_chancesToPass_43 : decode cX6_chancesToPass 43 = .ok (.iload 5, 2) := by decide +kernel
theorem dX6_chancesToPass_45 : decode cX6_chancesToPass 45 = .ok (.iload_n 2, 1) := by decide +kernel
theorem dX6_chancesToPass_46 : decode cX6_chancesToPass 46 = .ok (.invokevirtual 105, 3) := by decide +kernel
theorem dX6_chancesToPass_49 : decode cX6_chancesToPass 49 = .ok (.iadd, 1) := by decide +kernel
theorem dX6_chancesToPass_50 : decode cX6_chancesToPass 50 = .ok (.istore 4, 2) := by decide +kernel
theorem dX6_chancesToPass_52 : decode cX6_chancesToPass 52 = .ok (.iinc 5 1, 3) := by decide +kernel
theorem dX6_chancesToPass_55 : decode cX6_chancesToPass 55 = .ok (.goto (-43), 3) := by decide +kernel
theorem dX6_chancesToPass_58 : decode cX6_chancesToPass 58 = .ok (.iload 4, 2) := by decide +kernel
theorem dX6_chancesToPass_60 : decode cX6_chancesToPass 60 = .ok (.ireturn, 1) := by decide +kernel
set_option maxRecDepth 20000 in
theorem ggX6_chancesOfSick_X7_bit : GoodIn wsX6_chancesOfSick wsX7_bit := goodIn_r _ [5] (by decide +kernel) (by decide +kernel)
set_option maxRecDepth 20000 in
theorem gX6_chancesOfSick_X7_bit_n40 : GoodIn wsX6_chancesOfSick (wsX7_bit) := ggX6_chancesOfSick_X7_bit
theorem dX6_chancesOfSick_0 : decode cX6_chancesOfSick 0 = .ok (.iconst 1, 1) := by decide +kernel
theorem dX6_chancesOfSick_1 : decode cX6_chancesOfSick 1 = .ok (.istore_n 3, 1) := by decide +kernel
theorem dX6_chancesOfSick_2 : decode cX6_chancesOfSick 2 = .ok (.iconst 0, 1) := by decide +kernel
theorem dX6_chancesOfSick_3 : decode cX6_chancesOfSick 3 = .ok (.istore 4, 2) := by decide +kernel
theorem dX6_chancesOfSick_5 : decode cX6_chancesOfSick 5 = .ok (.iload 4, 2) := by decide +kernel
theorem dX6_chancesOfSick_7 : decode cX6_chancesOfSick 7 = .ok (.aload_n 0, 1) := by decide +kernel
theorem dX6_chancesOfSick_8 : decode cX6_chancesOfSick 8 = .ok (.getfield 9, 3) := by decide +kernel
theorem dX6_chancesOfSick_11 : decode cX6_chancesOfSick 11 = .ok (.getfield 83, 3) := by decide +kernel
theorem dX6_chancesOfSick_14 : decode cX6_chancesOfSick 14 = .ok (.if_icmp .ge 30, 3) := by decide +kernel
theorem dX6_chancesOfSick_17 : decode cX6_chancesOfSick 17 = .ok (.iload_n 3, 1) := by decide +kernel
theorem dX6_chancesOfSick_18 : decode cX6_chancesOfSick 18 = .ok (.iload_n 1, 1) := by decide +kernel
theorem dX6_chancesOfSick_19 : decode cX6_chancesOfSick 19 = .ok (.iload 4, 2) := by decide +kernel
theorem dX6_chancesOfSick_21 : decode cX6_chancesOfSick 21 = .ok (.invokestatic 40, 3) := by decide +kernel
theorem dX6_chancesOfSick_24 : decode cX6_chancesOfSick 24 = .ok (.iconst 1, 1) := by decide +kernel
theorem dX6_chancesOfSick_25 : decode cX6_chancesOfSick 25 = .ok (.if_icmp .ne 7, 3) := by decide +kernel
theorem dX6_chancesOfSick_28 : decode cX6_chancesOfSick 28 = .ok (.iload_n 2, 1) := by decide +kernel
theorem dX6_chancesOfSick_29 : decode cX6_chancesOfSick 29 = .ok (.goto 7, 3) := by decide +kernel
theorem dX6_chancesOfSick_32 : decode cX6_chancesOfSick 32 = .ok (.bipush 10, 2) := by decide +kernel
theorem dX6_chancesOfSick_34 : decode cX6_chancesOfSick 34 = .ok (.iload_n 2, 1) := by decide +kernel
theorem dX6_chancesOfSick_35 : decode cX6_chancesOfSick 35 = .ok (.isub, 1) := by decide +kernel
theorem dX6_chancesOfSick_36 : decode cX6_chancesOfSick 36 = .ok (.imul, 1) := by decide +kernel
theorem dX6_chancesOfSick_37 : decode cX6_chancesOfSick 37 = .ok (.istore_n 3, 1) := by decide +kernel
theorem dX6_chancesOfSick_38 : decode cX6_chancesOfSick 38 = .ok (.iinc 4 1, 3) := by decide +kernel
theorem dX6_chancesOfSick_41 : decode cX6_chancesOfSick 41 = .ok (.goto (-36), 3) := by decide +kernel
theorem dX6_chancesOfSick_44 : decode cX6_chancesOfSick 44 = .ok (.iload_n 3, 1) := by decide +kernel
theorem dX6_chancesOfSick_45 : decode cX6_chancesOfSick 45 = .ok (.ireturn, 1) := by decide +kernel
set_option maxRecDepth 20000 in
theorem ggX7_init_X0_init : GoodIn wsX7_init wsX0_init := goodIn_r _ [40, 41, 2, 3, 42, 43, 44, 45, 46, 47, 48, 49, 114, 115, 116, 117, 118, 119, 120] (by decide +kernel) (by decide +kernel)
set_option maxRecDepth 20000 in
theorem gX7_init_X0_init_n19 : GoodIn wsX7_init (wsX0_init) := ggX7_init_X0_init
set_option maxRecDepth 20000 in
theorem ggX7_init_X5_init : GoodIn wsX7_init wsX5_init := goodIn_r _ [52, 53, 2, 3, 54, 55, 56, 57, 58, 59, 60, 61, 62, 121, 122, 123, 124, 125, 126, 127, 128, 129] (by decide +kernel) (by decide +kernel)
set_option maxRecDepth 20000 in
theorem gX7_init_X5_init : GoodIn wsX7_init (wsX5_init) := ggX7_init_X5_init
set_option maxRecDepth 20000 in
theorem ggX7_init_X2_init : GoodIn wsX7_init wsX2_init := goodIn_r _ [64, 65, 2, 3, 45, 66, 67, 68, 69, 70, 71, 72, 130, 131, 132, 133, 134, 135, 136] (by decide +kernel) (by decide +kernel)
set_option maxRecDepth 20000 in
theorem gX7_init_X2_init_n38 : GoodIn wsX7_init (wsX2_init) := ggX7_init_X2_init
set_option maxRecDepth 20000 in
theorem ggX7_init_X6_init : GoodIn wsX7_init wsX6_init := goodIn_r _ [75, 76, 2, 3, 77, 78, 137, 138] (by decide +kernel) (by decide +kernel)
set_option maxRecDepth 20000 in
theorem gX7_init_X6_init : GoodIn wsX7_init (wsX6_init) := ggX7_init_X6_init
set_option maxRecDepth 20000 in
theorem ggX7_init_X4_init : GoodIn wsX7_init wsX4_init := goodIn_r _ [81, 82, 2, 3, 83, 139] (by decide +kernel) (by decide +kernel)
set_option maxRecDepth 20000 in
theorem gX7_init_X4_init : GoodIn wsX7_init (wsX4_init) := ggX7_init_X4_init
set_option maxRecDepth 20000 in
theorem ggX7_init_X1_init : GoodIn wsX7_init wsX1_init := goodIn_r _ [86, 87, 2, 3, 45, 88, 89, 90, 91, 92, 140, 141, 142, 143] (by decide +kernel) (by decide +kernel)
set_option maxRecDepth 20000 in
theorem gX7_init_X1_init : GoodIn wsX7_init (wsX1_init) := ggX7_init_X1_init
set_option maxRecDepth 20000 in
theorem ggX7_init_X3_init : GoodIn wsX7_init wsX3_init := goodIn_r _ [95, 96, 2, 3, 97, 98, 99, 100, 17, 18, 63, 64, 65, 45, 66, 67, 68, 69, 70, 71, 72, 144, 145, 146, 130, 131, 132, 133, 134, 135, 136] (by decide +kernel) (by decide +kernel)
set_option maxRecDepth 20000 in
theorem gX7_init_X3_init : GoodIn wsX7_init (wsX3_init) := ggX7_init_X3_init
theorem dX7_init_0 : decode cX7_init 0 = .ok (.aload_n 0, 1) := by decide +kernel
theorem dX7_init_1 : decode cX7_init 1 = .ok (.invokespecial 1, 3) := by decide +kernel
theorem dX7_init_4 : decode cX7_init 4 = .ok (.aload_n 0, 1) := by decide +kernel
theorem dX7_init_5 : decode cX7_init 5 = .ok (.sipush 200, 3) := by decide +kernel
theorem dX7_init_8 : decode cX7_init 8 = .ok (.newarray .char, 2) := by decide +kernel
theorem dX7_init_10 : decode cX7_init 10 = .ok (.putfield 9, 3) := by decide +kernel
theorem dX7_init_13 : decode cX7_init 13 = .ok (.aload_n 0, 1) := by decide +kernel
theorem dX7_init_14 : decode cX7_init 14 = .ok (.iconst 0, 1) := by decide +kernel
theorem dX7_init_15 : decode cX7_init 15 = .ok (.putfield 13, 3) := by decide +kernel
theorem dX7_init_18 : decode cX7_init 18 = .ok (.aload_n 0, 1) := by decide +kernel
theorem dX7_init_19 : decode cX7_init 19 = .ok (.new 17, 3) := by decide +kernel
theorem dX7_init_22 : decode cX7_init 22 = .ok (.dup, 1) := by decide +kernel
theorem dX7_init_23 : decode cX7_init 23 = .ok (.invokespecial 19, 3) := by decide +kernel
theorem dX7_init_26 : decode cX7_init 26 = .ok (.putfield 20, 3) := by decide +kernel
theorem dX7_init_29 : decode cX7_init 29 = .ok (.aload_n 0, 1) := by decide +kernel
theorem dX7_init_30 : decode cX7_init 30 = .ok (.new 17, 3) := by decide +kernel
theorem dX7_init_33 : decode cX7_init 33 = .ok (.dup, 1) := by decide +kernel
theorem dX7_init_34 : decode cX7_init 34 = .ok (.invokespecial 19, 3) := by decide +kernel
theorem dX7_init_37 : decode cX7_init 37 = .ok (.putfield 24, 3) := by decide +kernel
theorem dX7_init_40 : decode cX7_init 40 = .ok (.aload_n 0, 1) := by decide +kernel
theorem dX7_init_41 : decode cX7_init 41 = .ok (.new 27, 3) := by decide +kernel
theorem dX7_init_44 : decode cX7_init 44 = .ok (.dup, 1) := by decide +kernel
theorem dX7_init_45 : decode cX7_init 45 = .ok (.aload_n 0, 1) := by decide +kernel
theorem dX7_init_46 : decode cX7_init 46 = .ok (.getfield 9, 3) := by decide +kernel
theorem dX7_init_49 : decode cX7_init 49 = .ok (.aload_n 0, 1) := by decide +kernel
theorem dX7_init_50 : decode cX7_init 50 = .ok (.getfield 24, 3) := by decide +kernel
theorem dX7_init_53 : decode cX7_init 53 = .ok (.invokespecial 29, 3) := by decide +kernel
theorem dX7_init_56 : decode cX7_init 56 = .ok (.putfield 32, 3) := by decide +kernel
theorem dX7_init_59 : decode cX7_init 59 = .ok (.aload_n 0, 1) := by decide +kernel
theorem dX7_init_60 : decode cX7_init 60 = .ok (.new 36, 3) := by decide +kernel
theorem dX7_init_63 : decode cX7_init 63 = .ok (.dup, 1) := by decide +kernel
theorem dX7_init_64 : decode cX7_init 64 = .ok (.invokespecial 38, 3) := by decide +kernel
theorem dX7_init_67 : decode cX7_init 67 = .ok (.putfield 39, 3) := by decide +kernel
theorem dX7_init_70 : decode cX7_init 70 = .ok (.aload_n 0, 1) := by decide +kernel
theorem dX7_init_71 : decode cX7_init 71 = .ok (.new 43, 3) := by decide +kernel
theorem dX7_init_74 : decode cX7_init 74 = .ok (.dup, 1) := by decide +kernel
theorem dX7_init_75 : decode cX7_init 75 = .ok (.aload_n 0, 1) := by decide +kernel
theorem dX7_init_76 : decode cX7_init 76 = .ok (.getfield 20, 3) := by decide +kernel
theorem dX7_init_79 : decode cX7_init 79 = .ok (.aload_n 0, 1) := by decide +kernel
theorem dX7_init_80 : decode cX7_init 80 = .ok (.getfield 39, 3) := by decide +kernel
theorem dX7_init_83 : decode cX7_init 83 = .ok (.invokespecial 45, 3) := by decide +kernel
theorem dX7_init_86 : decode cX7_init 86 = .ok (.putfield 48, 3) := by decide +kernel
theorem dX7_init_89 : decode cX7_init 89 = .ok (.aload_n 0, 1) := by decide +kernel
theorem dX7_init_90 : decode cX7_init 90 = .ok (.new 52, 3) := by decide +kernel
theorem dX7_init_93 : decode cX7_init 93 = .ok (.dup, 1) := by decide +kernel
theorem dX7_init_94 : decode cX7_init 94 = .ok (.aload_n 0, 1) := by decide +kernel
theorem dX7_init_95 : decode cX7_init 95 = .ok (.getfield 48, 3) := by decide +kernel
theorem dX7_init_98 : decode cX7_init 98 = .ok (.invokespecial 54, 3) := by decide +kernel
theorem dX7_init_101 : decode cX7_init 101 = .ok (.putfield 57, 3) := by decide +kernel
theorem dX7_init_104 : decode cX7_init 104 = .ok (.aload_n 0, 1) := by decide +kernel
theorem dX7_init_105 : decode cX7_init 105 = .ok (.new 61, 3) := by decide +kernel
theorem dX7_init_108 : decode cX7_init 108 = .ok (.dup, 1) := by decide +kernel
theorem dX7_init_109 : decode cX7_init 109 = .ok (.aload_n 0, 1) := by decide +kernel
theorem dX7_init_110 : decode cX7_init 110 = .ok (.getfield 48, 3) := by decide +kernel
theorem dX7_init_113 : decode cX7_init 113 = .ok (.invokespecial 63, 3) := by decide +kernel
theorem dX7_init_116 : decode cX7_init 116 = .ok (.putfield 64, 3) := by decide +kernel
theorem dX7_init_119 : decode cX7_init 119 = .ok (.aload_n 0, 1) := by decide +kernel
theorem dX7_init_120 : decode cX7_init 120 = .ok (.new 68, 3) := by decide +kernel
theorem dX7_init_123 : decode cX7_init 123 = .ok (.dup, 1) := by decide +kernel
theorem dX7_init_124 : decode cX7_init 124 = .ok (.invokespecial 70, 3) := by decide +kernel
theorem dX7_init_127 : decode cX7_init 127 = .ok (.putfield 71, 3) := by decide +kernel
theorem dX7_init_130 : decode cX7_init 130 = .ok (.aload_n 0, 1) := by decide +kernel
theorem dX7_init_131 : decode cX7_init 131 = .ok (.iconst 2, 1) := by decide +kernel
theorem dX7_init_132 : decode cX7_init 132 = .ok (.anewarray 36, 3) := by decide +kernel
theorem dX7_init_135 : decode cX7_init 135 = .ok (.putfield 75, 3) := by decide +kernel
theorem dX7_init_138 : decode cX7_init 138 = .ok (.aload_n 0, 1) := by decide +kernel
theorem dX7_init_139 : decode cX7_init 139 = .ok (.iconst 0, 1) := by decide +kernel
theorem dX7_init_140 : decode cX7_init 140 = .ok (.putfield 79, 3) := by decide +kernel
theorem dX7_init_143 : decode cX7_init 143 = .ok (.aload_n 0, 1) := by decide +kernel
theorem dX7_init_144 : decode cX7_init 144 = .ok (.lconst 0, 1) := by decide +kernel
theorem dX7_init_145 : decode cX7_init 145 = .ok (.putfield 82, 3) := by decide +kernel
theorem dX7_init_148 : decode cX7_init 148 = .ok (.iconst 0, 1) := by decide +kernel
theorem dX7_init_149 : decode cX7_init 149 = .ok (.istore_n 1, 1) := by decide +kernel
theorem dX7_init_150 : decode cX7_init 150 = .ok (.iload_n 1, 1) := by decide +kernel
theorem dX7_init_151 : decode cX7_init 151 = .ok (.iconst 2, 1) := by decide +kernel
theorem dX7_init_152 : decode cX7_init 152 = .ok (.if_icmp .ge 22, 3) := by decide +kernel
theorem dX7_init_155 : decode cX7_init 155 = .ok (.aload_n 0, 1) := by decide +kernel
theorem dX7_init_156 : decode cX7_init 156 = .ok (.getfield 75, 3) := by decide +kernel
theorem dX7_init_159 : decode cX7_init 159 = .ok (.iload_n 1, 1) := by decide +kernel
theorem dX7_init_160 : decode cX7_init 160 = .ok (.new 36, 3) := by decide +kernel
theorem dX7_init_163 : decode cX7_init 163 = .ok (.dup, 1) := by decide +kernel
theorem dX7_init_164 : decode cX7_init 164 = .ok (.invokespecial 38, 3) := by decide +kernel
theorem dX7_init_167 : decode cX7_init 167 = .ok (.aastore, 1) := by decide +kernel
theorem dX7_init_168 : decode cX7_init 168 = .ok (.iinc 1 1, 3) := by decide +kernel
theorem dX7_init_171 : decode cX7_init 171 = .ok (.goto (-21), 3) := by decide +kernel
theorem dX7_init_174 : decode cX7_init 174 = .ok (.return_, 1) := by decide +kernel
theorem dX7_type_0 : decode cX7_type 0 = .ok (.iload_n 1, 1) := by decide +kernel
theorem dX7_type_1 : decode cX7_type 1 = .ok (.ifCond .lt 10, 3) := by decide +kernel
theorem dX7_type_4 : decode cX7_type 4 = .ok (.iload_n 1, 1) := by decide +kernel
theorem dX7_type_5 : decode cX7_type 5 = .ok (.sipush 255, 3) := by decide +kernel
theorem dX7_type_8 : decode cX7_type 8 = .ok (.if_icmp .le 5, 3) := by decide +kernel
theorem dX7_type_11 : decode cX7_type 11 = .ok (.iconst (-1), 1) := by decide +kernel
theorem dX7_type_12 : decode cX7_type 12 = .ok (.ireturn, 1) := by decide +kernel
theorem dX7_type_13 : decode cX7_type 13 = .ok (.aload_n 0, 1) := by decide +kernel
theorem dX7_type_14 : decode cX7_type 14 = .ok (.getfield 13, 3) := by decide +kernel
theorem dX7_type_17 : decode cX7_type 17 = .ok (.sipush 200, 3) := by decide +kernel
theorem dX7_type_20 : decode cX7_type 20 = .ok (.if_icmp .lt 6, 3) := by decide +kernel
theorem dX7_type_23 : decode cX7_type 23 = .ok (.bipush (-3), 2) := by decide +kernel
theorem dX7_type_25 : decode cX7_type 25 = .ok (.ireturn, 1) := by decide +kernel
theorem dX7_type_26 : decode cX7_type 26 = .ok (.aload_n 0, 1) := by decide +kernel
theorem dX7_type_27 : decode cX7_type 27 = .ok (.getfield 9, 3) := by decide +kernel
theorem dX7_type_30 : decode cX7_type 30 = .ok (.aload_n 0, 1) := by decide +kernel
theorem dX7_type_31 : decode cX7_type 31 = .ok (.getfield 13, 3) := by decide +kernel
theorem dX7_type_34 : decode cX7_type 34 = .ok (.iload_n 1, 1) := by decide +kernel
theorem dX7_type_35 : decode cX7_type 35 = .ok (.i2c, 1) := by decide +kernel
theorem dX7_type_36 : decode cX7_type 36 = .ok (.castore, 1) := by decide +kernel
theorem dX7_type_37 : decode cX7_type 37 = .ok (.aload_n 0, 1) := by decide +kernel
theorem dX7_type_38 : decode cX7_type 38 = .ok (.dup, 1) := by decide +kernel
theorem dX7_type_39 : decode cX7_type 39 = .ok (.getfield 13, 3) := by decide +kernel
theorem dX7_type_42 : decode cX7_type 42 = .ok (.iconst 1, 1) := by decide +kernel
theorem dX7_type_43 : decode cX7_type 43 = .ok (.iadd, 1) := by decide +kernel
theorem dX7_type_44 : decode cX7_type 44 = .ok (.putfield 13, 3) := by decide +kernel
theorem dX7_type_47 : decode cX7_type 47 = .ok (.aload_n 0, 1) := by decide +kernel
theorem dX7_type_48 : decode cX7_type 48 = .ok (.getfield 13, 3) := by decide +kernel
theorem dX7_type_51 : decode cX7_type 51 = .ok (.ireturn, 1) := by decide +kernel
theorem dX7_clear_0 : decode cX7_clear 0 = .ok (.aload_n 0, 1) := by decide +kernel
theorem dX7_clear_1 : decode cX7_clear 1 = .ok (.getfield 13, 3) := by decide +kernel
theorem dX7_clear_4 : decode cX7_clear 4 = .ok (.istore_n 1, 1) := by decide +kernel
theorem dX7_clear_5 : decode cX7_clear 5 = .ok (.aload_n 0, 1) := by decide +kernel
theorem dX7_clear_6 : decode cX7_clear 6 = .ok (.iconst 0, 1) := by decide +kernel
theorem dX7_clear_7 : decode cX7_clear 7 = .ok (.putfield 13, 3) := by decide +kernel
theorem dX7_clear_10 : decode cX7_clear 10 = .ok (.iload_n 1, 1) := by decide +kernel
theorem dX7_clear_11 : decode cX7_clear 11 = .ok (.ireturn, 1) := by decide +kernel
set_option maxRecDepth 20000 in
theorem ggX7_council_X5_readText : GoodIn wsX7_council wsX5_readText := goodIn_r _ [13, 14, 15, 16, 17, 18, 12, 19, 20, 21, 22, 23, 24, 25, 26, 27, 28, 29, 30, 31, 32, 33, 34, 35, 36, 37, 38, 39, 40, 41, 42, 43, 44, 45, 46, 47, 48, 49, 50, 51, 52, 53, 54, 55, 56, 57, 58, 59, 60, 61, 62, 63, 64, 65, 66, 67, 68, 69, 70, 71, 72, 73, 74, 75, 76, 77, 78, 79, 80, 81, 82, 83, 84, 136, 137, 138, 139, 140, 141, 142, 143, 144, 145, 146, 147, 148, 149, 150, 151] (by decide +kernel) (by decide +kernel)
set_option maxRecDepth 20000 in
theorem gX7_council_X5_readText : GoodIn wsX7_council (wsV RX7 86 RX5 yX5_readText wsX5_readText) := goodIn_app (goodIn_of _ (by decide +kernel)) ggX7_council_X5_readText
set_option maxRecDepth 20000 in
theorem ggX7_council_X0_copyFrom : GoodIn wsX7_council wsX0_copyFrom := goodIn_r _ [88, 34, 35, 36, 72, 89, 90, 91, 92, 73, 74, 75, 145, 146, 147, 148, 149, 150, 151] (by decide +kernel) (by decide +kernel)
set_option maxRecDepth 20000 in
theorem gX7_council_X0_copyFrom : GoodIn wsX7_council (wsV RX7 90 RX0 yX0_copyFrom wsX0_copyFrom) := goodIn_app (goodIn_of _ (by decide +kernel)) ggX7_council_X0_copyFrom
set_option maxRecDepth 20000 in
theorem ggX7_council_X2_beginWith : GoodIn wsX7_council wsX2_beginWith := goodIn_r _ [97, 98, 99, 100, 90, 91, 92, 101, 102, 103, 104, 105, 106, 107, 108, 109, 110, 145, 146, 147, 148, 149, 150, 151, 152, 153, 154, 155, 156, 157, 158] (by decide +kernel) (by decide +kernel)
set_option maxRecDepth 20000 in
theorem gX7_council_X2_beginWith : GoodIn wsX7_council (wsV RX7 94 RX2 yX2_beginWith wsX2_beginWith) := goodIn_app (goodIn_of _ (by decide +kernel)) ggX7_council_X2_beginWith
set_option maxRecDepth 20000 in
theorem ggX7_council_X1_tearUp : GoodIn wsX7_council wsX1_tearUp := goodIn_r _ [115, 116, 159, 160, 161, 162] (by decide +kernel) (by decide +kernel)
set_option maxRecDepth 20000 in
theorem gX7_council_X1_tearUp : GoodIn wsX7_council (wsV RX7 97 RX1 yX1_tearUp wsX1_tearUp) := goodIn_app (goodIn_of _ (by decide +kernel)) ggX7_council_X1_tearUp
set_option maxRecDepth 20000 in
theorem ggX7_council_X3_lose : GoodIn wsX7_council wsX3_lose := goodIn_r _ [121, 122, 163, 164, 165] (by decide +kernel) (by decide +kernel)
set_option maxRecDepth 20000 in
theorem gX7_council_X3_lose : GoodIn wsX7_council (wsV RX7 100 RX3 yX3_lose wsX3_lose) := goodIn_app (goodIn_of _ (by decide +kernel)) ggX7_council_X3_lose
theorem dX7_council_0 : decode cX7_council 0 = .ok (.aload_n 0, 1) := by decide +kernel
theorem dX7_council_1 : decode cX7_council 1 = .ok (.getfield 32, 3) := by decide +kernel
theorem dX7_council_4 : decode cX7_council 4 = .ok (.aload_n 0, 1) := by decide +kernel
theorem dX7_council_5 : decode cX7_council 5 = .ok (.getfield 13, 3) := by decide +kernel
theorem dX7_council_8 : decode cX7_council 8 = .ok (.invokevirtual 86, 3) := by decide +kernel
theorem dX7_council_11 : decode cX7_council 11 = .ok (.istore_n 1, 1) := by decide +kernel
theorem dX7_council_12 : decode cX7_council 12 = .ok (.iload_n 1, 1) := by decide +kernel
theorem dX7_council_13 : decode cX7_council 13 = .ok (.ifCond .ge 5, 3) := by decide +kernel
theorem dX7_council_16 : decode cX7_council 16 = .ok (.iload_n 1, 1) := by decide +kernel
theorem dX7_council_17 : decode cX7_council 17 = .ok (.ireturn, 1) := by decide +kernel
theorem dX7_council_18 : decode cX7_council 18 = .ok (.aload_n 0, 1) := by decide +kernel
theorem dX7_council_19 : decode cX7_council 19 = .ok (.getfield 20, 3) := by decide +kernel
theorem dX7_council_22 : decode cX7_council 22 = .ok (.aload_n 0, 1) := by decide +kernel
theorem dX7_council_23 : decode cX7_council 23 = .ok (.getfield 24, 3) := by decide +kernel
theorem dX7_council_26 : decode cX7_council 26 = .ok (.invokevirtual 90, 3) := by decide +kernel
theorem dX7_council_29 : decode cX7_council 29 = .ok (.aload_n 0, 1) := by decide +kernel
theorem dX7_council_30 : decode cX7_council 30 = .ok (.getfield 39, 3) := by decide +kernel
theorem dX7_council_33 : decode cX7_council 33 = .ok (.aload_n 0, 1) := by decide +kernel
theorem dX7_council_34 : decode cX7_council 34 = .ok (.getfield 20, 3) := by decide +kernel
theorem dX7_council_37 : decode cX7_council 37 = .ok (.invokevirtual 94, 3) := by decide +kernel
theorem dX7_council_40 : decode cX7_council 40 = .ok (.aload_n 0, 1) := by decide +kernel
theorem dX7_council_41 : decode cX7_council 41 = .ok (.getfield 64, 3) := by decide +kernel
theorem dX7_council_44 : decode cX7_council 44 = .ok (.invokevirtual 97, 3) := by decide +kernel
theorem dX7_council_47 : decode cX7_council 47 = .ok (.aload_n 0, 1) := by decide +kernel
theorem dX7_council_48 : decode cX7_council 48 = .ok (.getfield 71, 3) := by decide +kernel
theorem dX7_council_51 : decode cX7_council 51 = .ok (.invokevirtual 100, 3) := by decide +kernel
theorem dX7_council_54 : decode cX7_council 54 = .ok (.aload_n 0, 1) := by decide +kernel
theorem dX7_council_55 : decode cX7_council 55 = .ok (.iconst 0, 1) := by decide +kernel
theorem dX7_council_56 : decode cX7_council 56 = .ok (.putfield 79, 3) := by decide +kernel
theorem dX7_council_59 : decode cX7_council 59 = .ok (.aload_n 0, 1) := by decide +kernel
theorem dX7_council_60 : decode cX7_council 60 = .ok (.iconst 0, 1) := by decide +kernel
theorem dX7_council_61 : decode cX7_council 61 = .ok (.putfield 13, 3) := by decide +kernel
theorem dX7_council_64 : decode cX7_council 64 = .ok (.iload_n 1, 1) := by decide +kernel
theorem dX7_council_65 : decode cX7_council 65 = .ok (.ireturn, 1) := by decide +kernel
set_option maxRecDepth 20000 in
theorem ggX7_thing_X7_noThing : GoodIn wsX7_thing wsX7_noThing := goodIn_r _ [15, 1, 16, 45, 46, 47, 48, 49, 50, 51, 52, 53, 54, 55, 56, 57, 58, 59, 60, 61, 62, 63, 64] (by decide +kernel) (by decide +kernel)
set_option maxRecDepth 20000 in
theorem gX7_thing_X7_noThing : GoodIn wsX7_thing (wsV RX7 103 RX7 yX7_noThing wsX7_noThing) := goodIn_app (goodIn_of _ (by decide +kernel)) ggX7_thing_X7_noThing
set_option maxRecDepth 20000 in
theorem ggX7_thing_X7_bit : GoodIn wsX7_thing wsX7_bit := goodIn_r _ [19] (by decide +kernel) (by decide +kernel)
set_option maxRecDepth 20000 in
theorem gX7_thing_X7_bit : GoodIn wsX7_thing (va_wsS RX7 123 yX7_bit wsX7_bit) := goodIn_app (goodIn_of _ (by decide +kernel)) ggX7_thing_X7_bit
set_option maxRecDepth 20000 in
theorem ggX7_thing_X6_voices : GoodIn wsX7_thing wsX6_voices := goodIn_r _ [24, 25, 26, 27, 28, 29, 23, 30, 31, 32, 33, 34, 35, 36, 37, 38, 39, 40, 41, 42, 43, 44, 18, 14, 19, 72, 73, 65, 66, 67, 68, 69, 70, 71, 58, 59, 60, 61, 62, 63, 64] (by decide +kernel) (by decide +kernel)
set_option maxRecDepth 20000 in
theorem gX7_thing_X6_voices : GoodIn wsX7_thing (wsV RX7 133 RX6 yX6_voices wsX6_voices) := goodIn_app (goodIn_of _ (by decide +kernel)) ggX7_thing_X6_voices
theorem dX7_thing_0 : decode cX7_thing 0 = .ok (.aload_n 0, 1) := by decide +kernel
theorem dX7_thing_1 : decode cX7_thing 1 = .ok (.iload_n 1, 1) := by decide +kernel
theorem dX7_thing_2 : decode cX7_thing 2 = .ok (.invokevirtual 103, 3) := by decide +kernel
theorem dX7_thing_5 : decode cX7_thing 5 = .ok (.ifCond .eq 5, 3) := by decide +kernel
theorem dX7_thing_8 : decode cX7_thing 8 = .ok (.iconst (-1), 1) := by decide +kernel
theorem dX7_thing_9 : decode cX7_thing 9 = .ok (.ireturn, 1) := by decide +kernel
theorem dX7_thing_10 : decode cX7_thing 10 = .ok (.iload_n 2, 1) := by decide +kernel
theorem dX7_thing_11 : decode cX7_thing 11 = .ok (.tableswitch 131 0 7 #[45, 55, 65, 75, 85, 97, 109, 119], 45) := by decide +kernel
theorem dX7_thing_56 : decode cX7_thing 56 = .ok (.aload_n 0, 1) := by decide +kernel
theorem dX7_thing_57 : decode cX7_thing 57 = .ok (.getfield 20, 3) := by decide +kernel
theorem dX7_thing_60 : decode cX7_thing 60 = .ok (.getfield 107, 3) := by decide +kernel
theorem dX7_thing_63 : decode cX7_thing 63 = .ok (.iload_n 1, 1) := by decide +kernel
theorem dX7_thing_64 : decode cX7_thing 64 = .ok (.iaload, 1) := by decide +kernel
theorem dX7_thing_65 : decode cX7_thing 65 = .ok (.ireturn, 1) := by decide +kernel
theorem dX7_thing_66 : decode cX7_thing 66 = .ok (.aload_n 0, 1) := by decide +kernel
theorem dX7_thing_67 : decode cX7_thing 67 = .ok (.getfield 20, 3) := by decide +kernel
theorem dX7_thing_70 : decode cX7_thing 70 = .ok (.getfield 111, 3) := by decide +kernel
theorem dX7_thing_73 : decode cX7_thing 73 = .ok (.iload_n 1, 1) := by decide +kernel
theorem dX7_thing_74 : decode cX7_thing 74 = .ok (.iaload, 1) := by decide +kernel
theorem dX7_thing_75 : decode cX7_thing 75 = .ok (.ireturn, 1) := by decide +kernel
theorem dX7_thing_76 : decode cX7_thing 76 = .ok (.aload_n 0, 1) := by decide +kernel
theorem dX7_thing_77 : decode cX7_thing 77 = .ok (.getfield 20, 3) := by decide +kernel
theorem dX7_thing_80 : decode cX7_thing 80 = .ok (.getfield 114, 3) := by decide +kernel
theorem dX7_thing_83 : decode cX7_thing 83 = .ok (.iload_n 1, 1) := by decide +kernel
theorem dX7_thing_84 : decode cX7_thing 84 = .ok (.iaload, 1) := by decide +kernel
theorem dX7_thing_85 : decode cX7_thing 85 = .ok (.ireturn, 1) := by decide +kernel
theorem dX7_thing_86 : decode cX7_thing 86 = .ok (.aload_n 0, 1) := by decide +kernel
theorem dX7_thing_87 : decode cX7_thing 87 = .ok (.getfield 39, 3) := by decide +kernel
theorem dX7_thing_90 : decode cX7_thing 90 = .ok (.getfield 117, 3) := by decide +kernel
theorem dX7_thing_93 : decode cX7_thing 93 = .ok (.iload_n 1, 1) := by decide +kernel
theorem dX7_thing_94 : decode cX7_thing 94 = .ok (.iaload, 1) := by decide +kernel
theorem dX7_thing_95 : decode cX7_thing 95 = .ok (.ireturn, 1) := by decide +kernel
theorem dX7_thing_96 : decode cX7_thing 96 = .ok (.aload_n 0, 1) := by decide +kernel
theorem dX7_thing_97 : decode cX7_thing 97 = .ok (.getfield 39, 3) := by decide +kernel
theorem dX7_thing_100 : decode cX7_thing 100 = .ok (.getfield 120, 3) := by decide +kernel
theorem dX7_thing_103 : decode cX7_thing 103 = .ok (.iload_n 1, 1) := by decide +kernel
theorem dX7_thing_104 : decode cX7_thing 104 = .ok (.invokestatic 123, 3) := by decide +kernel
theorem dX7_thing_107 : decode cX7_thing 107 = .ok (.ireturn, 1) := by decide +kernel
theorem dX7_thing_108 : decode cX7_thing 108 = .ok (.aload_n 0, 1) := by decide +kernel
theorem dX7_thing_109 : decode cX7_thing 109 = .ok (.getfield 39, 3) := by decide +kernel
theorem dX7_thing_112 : decode cX7_thing 112 = .ok (.getfield 127, 3) := by decide +kernel
theorem dX7_thing_115 : decode cX7_thing 115 = .ok (.iload_n 1, 1) := by decide +kernel
theorem dX7_thing_116 : decode cX7_thing 116 = .ok (.invokestatic 123, 3) := by decide +kernel
theorem dX7_thing_119 : decode cX7_thing 119 = .ok (.ireturn, 1) := by decide +kernel
theorem dX7_thing_120 : decode cX7_thing 120 = .ok (.aload_n 0, 1) := by decide +kernel
theorem dX7_thing_121 : decode cX7_thing 121 = .ok (.getfield 39, 3) := by decide +kernel
theorem dX7_thing_124 : decode cX7_thing 124 = .ok (.getfield 130, 3) := by decide +kernel
theorem dX7_thing_127 : decode cX7_thing 127 = .ok (.iload_n 1, 1) := by decide +kernel
theorem dX7_thing_128 : decode cX7_thing 128 = .ok (.iaload, 1) := by decide +kernel
theorem dX7_thing_129 : decode cX7_thing 129 = .ok (.ireturn, 1) := by decide +kernel
theorem dX7_thing_130 : decode cX7_thing 130 = .ok (.aload_n 0, 1) := by decide +kernel
theorem dX7_thing_131 : decode cX7_thing 131 = .ok (.getfield 48, 3) := by decide +kernel
theorem dX7_thing_134 : decode cX7_thing 134 = .ok (.invokevirtual 133, 3) := by decide +kernel
theorem dX7_thing_137 : decode cX7_thing 137 = .ok (.iload_n 1, 1) := by decide +kernel
theorem dX7_thing_138 : decode cX7_thing 138 = .ok (.invokestatic 123, 3) := by decide +kernel
theorem dX7_thing_141 : decode cX7_thing 141 = .ok (.ireturn, 1) := by decide +kernel
theorem dX7_thing_142 : decode cX7_thing 142 = .ok (.iconst (-1), 1) := by decide +kernel
theorem dX7_thing_143 : decode cX7_thing 143 = .ok (.ireturn, 1) := by decide +kernel
set_option maxRecDepth 20000 in
theorem ggX7_officer_X7_noOfficer : GoodIn wsX7_officer wsX7_noOfficer := goodIn_r _ [8, 9, 10, 49, 50, 51, 52, 53, 54, 55, 56, 57, 58, 59, 60, 61, 69, 70, 71, 72, 73, 74, 75] (by decide +kernel) (by decide +kernel)
set_option maxRecDepth 20000 in
theorem gX7_officer_X7_noOfficer : GoodIn wsX7_officer (wsV RX7 137 RX7 yX7_noOfficer wsX7_noOfficer) := goodIn_app (goodIn_of _ (by decide +kernel)) ggX7_officer_X7_noOfficer
set_option maxRecDepth 20000 in
theorem ggX7_officer_X7_bit : GoodIn wsX7_officer wsX7_bit := goodIn_r _ [13] (by decide +kernel) (by decide +kernel)
set_option maxRecDepth 20000 in
theorem gX7_officer_X7_bit : GoodIn wsX7_officer (va_wsS RX7 123 yX7_bit wsX7_bit) := goodIn_app (goodIn_of _ (by decide +kernel)) ggX7_officer_X7_bit
set_option maxRecDepth 20000 in
theorem ggX7_officer_X6_heldBy : GoodIn wsX7_officer wsX6_heldBy := goodIn_r _ [18, 19, 20, 21, 22, 12, 7, 13, 76, 77, 69, 70, 71, 72, 73, 74, 75, 62, 63, 64, 65, 66, 67, 68] (by decide +kernel) (by decide +kernel)
set_option maxRecDepth 20000 in
theorem gX7_officer_X6_heldBy : GoodIn wsX7_officer (wsV RX7 143 RX6 yX6_heldBy wsX6_heldBy) := goodIn_app (goodIn_of _ (by decide +kernel)) ggX7_officer_X6_heldBy
set_option maxRecDepth 20000 in
theorem ggX7_officer_X6_votesHeldBy : GoodIn wsX7_officer wsX6_votesHeldBy := goodIn_r _ [26, 27, 28, 29, 17, 30, 21, 31, 32, 33, 34, 35, 36, 37, 38, 39, 19, 20, 40, 41, 42, 43, 15, 16, 18, 22, 12, 7, 13, 44, 45, 46, 47, 48, 76, 77, 62, 63, 64, 65, 66, 67, 68, 69, 70, 71, 72, 73, 74, 75] (by decide +kernel) (by decide +kernel)
set_option maxRecDepth 20000 in
theorem gX7_officer_X6_votesHeldBy : GoodIn wsX7_officer (wsV RX7 146 RX6 yX6_votesHeldBy wsX6_votesHeldBy) := goodIn_app (goodIn_of _ (by decide +kernel)) ggX7_officer_X6_votesHeldBy
theorem dX7_officer_0 : decode cX7_officer 0 = .ok (.aload_n 0, 1) := by decide +kernel
theorem dX7_officer_1 : decode cX7_officer 1 = .ok (.iload_n 1, 1) := by decide +kernel
theorem dX7_officer_2 : decode cX7_officer 2 = .ok (.invokevirtual 137, 3) := by decide +kernel
theorem dX7_officer_5 : decode cX7_officer 5 = .ok (.ifCond .eq 5, 3) := by decide +kernel
theorem dX7_officer_8 : decode cX7_officer 8 = .ok (.iconst (-1), 1) := by decide +kernel
theorem dX7_officer_9 : decode cX7_officer 9 = .ok (.ireturn, 1) := by decide +kernel
theorem dX7_officer_10 : decode cX7_officer 10 = .ok (.iload_n 2, 1) := by decide +kernel
theorem dX7_officer_11 : decode cX7_officer 11 = .ok (.tableswitch 57 0 2 #[25, 37, 48], 25) := by decide +kernel
theorem dX7_officer_36 : decode cX7_officer 36 = .ok (.aload_n 0, 1) := by decide +kernel
theorem dX7_officer_37 : decode cX7_officer 37 = .ok (.getfield 39, 3) := by decide +kernel
theorem dX7_officer_40 : decode cX7_officer 40 = .ok (.getfield 140, 3) := by decide +kernel
theorem dX7_officer_43 : decode cX7_officer 43 = .ok (.iload_n 1, 1) := by decide +kernel
theorem dX7_officer_44 : decode cX7_officer 44 = .ok (.invokestatic 123, 3) := by decide +kernel
theorem dX7_officer_47 : decode cX7_officer 47 = .ok (.ireturn, 1) := by decide +kernel
theorem dX7_officer_48 : decode cX7_officer 48 = .ok (.aload_n 0, 1) := by decide +kernel
theorem dX7_officer_49 : decode cX7_officer 49 = .ok (.getfield 48, 3) := by decide +kernel
theorem dX7_officer_52 : decode cX7_officer 52 = .ok (.iconst 1, 1) := by decide +kernel
theorem dX7_officer_53 : decode cX7_officer 53 = .ok (.iload_n 1, 1) := by decide +kernel
theorem dX7_officer_54 : decode cX7_officer 54 = .ok (.ishl, 1) := by decide +kernel
theorem dX7_officer_55 : decode cX7_officer 55 = .ok (.invokevirtual 143, 3) := by decide +kernel
theorem dX7_officer_58 : decode cX7_officer 58 = .ok (.ireturn, 1) := by decide +kernel
theorem dX7_officer_59 : decode cX7_officer 59 = .ok (.aload_n 0, 1) := by decide +kernel
theorem dX7_officer_60 : decode cX7_officer 60 = .ok (.getfield 48, 3) := by decide +kernel
theorem dX7_officer_63 : decode cX7_officer 63 = .ok (.iload_n 1, 1) := by decide +kernel
theorem dX7_officer_64 : decode cX7_officer 64 = .ok (.invokevirtual 146, 3) := by decide +kernel
theorem dX7_officer_67 : decode cX7_officer 67 = .ok (.ireturn, 1) := by decide +kernel
theorem dX7_officer_68 : decode cX7_officer 68 = .ok (.iconst (-1), 1) := by decide +kernel
theorem dX7_officer_69 : decode cX7_officer 69 = .ok (.ireturn, 1) := by decide +kernel
set_option maxRecDepth 20000 in
theorem ggX7_bill_X7_noBill : GoodIn wsX7_bill wsX7_noBill := goodIn_r _ [5] (by decide +kernel) (by decide +kernel)
set_option maxRecDepth 20000 in
theorem gX7_bill_X7_noBill : GoodIn wsX7_bill (va_wsS RX7 149 yX7_noBill wsX7_noBill) := goodIn_app (goodIn_of _ (by decide +kernel)) ggX7_bill_X7_noBill
set_option maxRecDepth 20000 in
theorem ggX7_bill_X6_voices : GoodIn wsX7_bill wsX6_voices := goodIn_r _ [10, 11, 12, 13, 14, 15, 9, 16, 17, 18, 19, 20, 21, 22, 23, 24, 25, 26, 27, 28, 29, 30, 31, 4, 32, 62, 63, 64, 65, 66, 67, 68, 69, 70, 71, 72, 73, 74, 75, 76, 77] (by decide +kernel) (by decide +kernel)
set_option maxRecDepth 20000 in
theorem gX7_bill_X6_voices : GoodIn wsX7_bill (wsV RX7 133 RX6 yX6_voices wsX6_voices) := goodIn_app (goodIn_of _ (by decide +kernel)) ggX7_bill_X6_voices
set_option maxRecDepth 20000 in
theorem ggX7_bill_X6_yesOf : GoodIn wsX7_bill wsX6_yesOf := goodIn_r _ [36, 21, 22, 37, 11, 38, 31, 4, 32, 62, 63, 71, 72, 73, 74, 75, 76, 77, 64, 65, 66, 67, 68, 69, 70] (by decide +kernel) (by decide +kernel)
set_option maxRecDepth 20000 in
theorem gX7_bill_X6_yesOf : GoodIn wsX7_bill (wsV RX7 152 RX6 yX6_yesOf wsX6_yesOf) := goodIn_app (goodIn_of _ (by decide +kernel)) ggX7_bill_X6_yesOf
set_option maxRecDepth 20000 in
theorem ggX7_bill_X6_votesOf : GoodIn wsX7_bill wsX6_votesOf := goodIn_r _ [42, 21, 22, 43, 31, 4, 32, 62, 63, 71, 72, 73, 74, 75, 76, 77] (by decide +kernel) (by decide +kernel)
set_option maxRecDepth 20000 in
theorem gX7_bill_X6_votesOf : GoodIn wsX7_bill (wsV RX7 155 RX6 yX6_votesOf wsX6_votesOf) := goodIn_app (goodIn_of _ (by decide +kernel)) ggX7_bill_X6_votesOf
set_option maxRecDepth 20000 in
theorem ggX7_bill_X6_passesBy : GoodIn wsX7_bill wsX6_passesBy := goodIn_r _ [47, 48, 40, 41, 9, 42, 21, 22, 43, 31, 4, 32, 62, 63, 71, 72, 73, 74, 75, 76, 77] (by decide +kernel) (by decide +kernel)
set_option maxRecDepth 20000 in
theorem gX7_bill_X6_passesBy : GoodIn wsX7_bill (wsV RX7 158 RX6 yX6_passesBy wsX6_passesBy) := goodIn_app (goodIn_of _ (by decide +kernel)) ggX7_bill_X6_passesBy
theorem dX7_bill_0 : decode cX7_bill 0 = .ok (.iload_n 1, 1) := by decide +kernel
theorem dX7_bill_1 : decode cX7_bill 1 = .ok (.invokestatic 149, 3) := by decide +kernel
theorem dX7_bill_4 : decode cX7_bill 4 = .ok (.ifCond .eq 5, 3) := by decide +kernel
theorem dX7_bill_7 : decode cX7_bill 7 = .ok (.iconst (-1), 1) := by decide +kernel
theorem dX7_bill_8 : decode cX7_bill 8 = .ok (.ireturn, 1) := by decide +kernel
theorem dX7_bill_9 : decode cX7_bill 9 = .ok (.aload_n 0, 1) := by decide +kernel
theorem dX7_bill_10 : decode cX7_bill 10 = .ok (.getfield 48, 3) := by decide +kernel
theorem dX7_bill_13 : decode cX7_bill 13 = .ok (.invokevirtual 133, 3) := by decide +kernel
theorem dX7_bill_16 : decode cX7_bill 16 = .ok (.istore_n 3, 1) := by decide +kernel
theorem dX7_bill_17 : decode cX7_bill 17 = .ok (.aload_n 0, 1) := by decide +kernel
theorem dX7_bill_18 : decode cX7_bill 18 = .ok (.getfield 48, 3) := by decide +kernel
theorem dX7_bill_21 : decode cX7_bill 21 = .ok (.iload_n 1, 1) := by decide +kernel
theorem dX7_bill_22 : decode cX7_bill 22 = .ok (.invokevirtual 152, 3) := by decide +kernel
theorem dX7_bill_25 : decode cX7_bill 25 = .ok (.istore 4, 2) := by decide +kernel
theorem dX7_bill_27 : decode cX7_bill 27 = .ok (.iload_n 2, 1) := by decide +kernel
theorem dX7_bill_28 : decode cX7_bill 28 = .ok (.tableswitch 82 0 3 #[32, 44, 58, 77], 32) := by decide +kernel
theorem dX7_bill_60 : decode cX7_bill 60 = .ok (.aload_n 0, 1) := by decide +kernel
theorem dX7_bill_61 : decode cX7_bill 61 = .ok (.getfield 48, 3) := by decide +kernel
theorem dX7_bill_64 : decode cX7_bill 64 = .ok (.iload_n 3, 1) := by decide +kernel
theorem dX7_bill_65 : decode cX7_bill 65 = .ok (.iload 4, 2) := by decide +kernel
theorem dX7_bill_67 : decode cX7_bill 67 = .ok (.iand, 1) := by decide +kernel
theorem dX7_bill_68 : decode cX7_bill 68 = .ok (.invokevirtual 155, 3) := by decide +kernel
theorem dX7_bill_71 : decode cX7_bill 71 = .ok (.ireturn, 1) := by decide +kernel
theorem dX7_bill_72 : decode cX7_bill 72 = .ok (.aload_n 0, 1) := by decide +kernel
theorem dX7_bill_73 : decode cX7_bill 73 = .ok (.getfield 48, 3) := by decide +kernel
theorem dX7_bill_76 : decode cX7_bill 76 = .ok (.iload_n 3, 1) := by decide +kernel
theorem dX7_bill_77 : decode cX7_bill 77 = .ok (.iload 4, 2) := by decide +kernel
theorem dX7_bill_79 : decode cX7_bill 79 = .ok (.iconst (-1), 1) := by decide +kernel
theorem dX7_bill_80 : decode cX7_bill 80 = .ok (.ixor, 1) := by decide +kernel
theorem dX7_bill_81 : decode cX7_bill 81 = .ok (.iand, 1) := by decide +kernel
theorem dX7_bill_82 : decode cX7_bill 82 = .ok (.invokevirtual 155, 3) := by decide +kernel
theorem dX7_bill_85 : decode cX7_bill 85 = .ok (.ireturn, 1) := by decide +kernel
theorem dX7_bill_86 : decode cX7_bill 86 = .ok (.aload_n 0, 1) := by decide +kernel
theorem dX7_bill_87 : decode cX7_bill 87 = .ok (.getfield 48, 3) := by decide +kernel
theorem dX7_bill_90 : decode cX7_bill 90 = .ok (.iload_n 3, 1) := by decide +kernel
theorem dX7_bill_91 : decode cX7_bill 91 = .ok (.iload 4, 2) := by decide +kernel
theorem dX7_bill_93 : decode cX7_bill 93 = .ok (.invokevirtual 158, 3) := by decide +kernel
theorem dX7_bill_96 : decode cX7_bill 96 = .ok (.ifCond .eq 7, 3) := by decide +kernel
theorem dX7_bill_99 : decode cX7_bill 99 = .ok (.iconst 1, 1) := by decide +kernel
theorem dX7_bill_100 : decode cX7_bill 100 = .ok (.goto 4, 3) := by decide +kernel
theorem dX7_bill_103 : decode cX7_bill 103 = .ok (.iconst 0, 1) := by decide +kernel
theorem dX7_bill_104 : decode cX7_bill 104 = .ok (.ireturn, 1) := by decide +kernel
theorem dX7_bill_105 : decode cX7_bill 105 = .ok (.iload_n 3, 1) := by decide +kernel
theorem dX7_bill_106 : decode cX7_bill 106 = .ok (.iload 4, 2) := by decide +kernel
theorem dX7_bill_108 : decode cX7_bill 108 = .ok (.iand, 1) := by decide +kernel
theorem dX7_bill_109 : decode cX7_bill 109 = .ok (.ireturn, 1) := by decide +kernel
theorem dX7_bill_110 : decode cX7_bill 110 = .ok (.iconst (-1), 1) := by decide +kernel
theorem dX7_bill_111 : decode cX7_bill 111 = .ok (.ireturn, 1) := by decide +kernel
set_option maxRecDepth 20000 in
theorem ggX7_now_X6_voices : GoodIn wsX7_now wsX6_voices := goodIn_r _ [12, 13, 14, 15, 16, 17, 11, 18, 19, 20, 21, 22, 23, 24, 25, 26, 27, 28, 29, 30, 31, 32, 33, 34, 35, 74, 75, 64, 65, 66, 67, 68, 69, 70, 76, 77, 78, 79, 80, 81, 82] (by decide +kernel) (by decide +kernel)
set_option maxRecDepth 20000 in
theorem gX7_now_X6_voices : GoodIn wsX7_now (wsV RX7 133 RX6 yX6_voices wsX6_voices) := goodIn_app (goodIn_of _ (by decide +kernel)) ggX7_now_X6_voices
set_option maxRecDepth 20000 in
theorem ggX7_now_X6_mostHolder : GoodIn wsX7_now wsX6_mostHolder := goodIn_r _ [39, 23, 40, 41, 42, 43, 11, 44, 45, 9, 10, 12, 13, 14, 15, 16, 17, 18, 19, 20, 21, 22, 24, 25, 26, 27, 28, 29, 30, 31, 32, 33, 34, 35, 46, 47, 48, 49, 50, 74, 75, 76, 77, 78, 79, 80, 81, 82, 64, 65, 66, 67, 68, 69, 70] (by decide +kernel) (by decide +kernel)
set_option maxRecDepth 20000 in
theorem gX7_now_X6_mostHolder : GoodIn wsX7_now (wsV RX7 168 RX6 yX6_mostHolder wsX6_mostHolder) := goodIn_app (goodIn_of _ (by decide +kernel)) ggX7_now_X6_mostHolder
theorem dX7_now_0 : decode cX7_now 0 = .ok (.iload_n 1, 1) := by decide +kernel
theorem dX7_now_1 : decode cX7_now 1 = .ok (.tableswitch 87 0 5 #[39, 47, 55, 63, 71, 79], 39) := by decide +kernel
theorem dX7_now_40 : decode cX7_now 40 = .ok (.aload_n 0, 1) := by decide +kernel
theorem dX7_now_41 : decode cX7_now 41 = .ok (.getfield 39, 3) := by decide +kernel
theorem dX7_now_44 : decode cX7_now 44 = .ok (.getfield 162, 3) := by decide +kernel
theorem dX7_now_47 : decode cX7_now 47 = .ok (.ireturn, 1) := by decide +kernel
theorem dX7_now_48 : decode cX7_now 48 = .ok (.aload_n 0, 1) := by decide +kernel
theorem dX7_now_49 : decode cX7_now 49 = .ok (.getfield 39, 3) := by decide +kernel
theorem dX7_now_52 : decode cX7_now 52 = .ok (.getfield 165, 3) := by decide +kernel
theorem dX7_now_55 : decode cX7_now 55 = .ok (.ireturn, 1) := by decide +kernel
theorem dX7_now_56 : decode cX7_now 56 = .ok (.aload_n 0, 1) := by decide +kernel
theorem dX7_now_57 : decode cX7_now 57 = .ok (.getfield 48, 3) := by decide +kernel
theorem dX7_now_60 : decode cX7_now 60 = .ok (.invokevirtual 133, 3) := by decide +kernel
theorem dX7_now_63 : decode cX7_now 63 = .ok (.ireturn, 1) := by decide +kernel
theorem dX7_now_64 : decode cX7_now 64 = .ok (.aload_n 0, 1) := by decide +kernel
theorem dX7_now_65 : decode cX7_now 65 = .ok (.getfield 39, 3) := by decide +kernel
theorem dX7_now_68 : decode cX7_now 68 = .ok (.getfield 140, 3) := by decide +kernel
theorem dX7_now_71 : decode cX7_now 71 = .ok (.ireturn, 1) := by decide +kernel
theorem dX7_now_72 : decode cX7_now 72 = .ok (.aload_n 0, 1) := by decide +kernel
theorem dX7_now_73 : decode cX7_now 73 = .ok (.getfield 48, 3) := by decide +kernel
theorem dX7_now_76 : decode cX7_now 76 = .ok (.invokevirtual 168, 3) := by decide +kernel
theorem dX7_now_79 : decode cX7_now 79 = .ok (.ireturn, 1) := by decide +kernel
theorem dX7_now_80 : decode cX7_now 80 = .ok (.aload_n 0, 1) := by decide +kernel
theorem dX7_now_81 : decode cX7_now 81 = .ok (.getfield 71, 3) := by decide +kernel
theorem dX7_now_84 : decode cX7_now 84 = .ok (.getfield 171, 3) := by decide +kernel
theorem dX7_now_87 : decode cX7_now 87 = .ok (.ireturn, 1) := by decide +kernel
theorem dX7_now_88 : decode cX7_now 88 = .ok (.iconst (-1), 1) := by decide +kernel
theorem dX7_now_89 : decode cX7_now 89 = .ok (.ireturn, 1) := by decide +kernel
set_option maxRecDepth 20000 in
theorem ggX7_puts_X7_noBill : GoodIn wsX7_puts wsX7_noBill := goodIn_r _ [9] (by decide +kernel) (by decide +kernel)
set_option maxRecDepth 20000 in
theorem gX7_puts_X7_noBill : GoodIn wsX7_puts (va_wsS RX7 149 yX7_noBill wsX7_noBill) := goodIn_app (goodIn_of _ (by decide +kernel)) ggX7_puts_X7_noBill
set_option maxRecDepth 20000 in
theorem ggX7_puts_X3_remember : GoodIn wsX7_puts wsX3_remember := goodIn_r _ [14, 15, 16, 17, 18, 19, 20, 21, 22, 23, 24, 25, 26, 27, 28, 29, 30, 31, 32, 33, 34, 35, 36, 37, 108, 109, 110, 101, 102, 103, 104, 105, 106, 107] (by decide +kernel) (by decide +kernel)
set_option maxRecDepth 20000 in
theorem gX7_puts_X3_remember : GoodIn wsX7_puts (wsV RX7 174 RX3 yX3_remember wsX3_remember) := goodIn_app (goodIn_of _ (by decide +kernel)) ggX7_puts_X3_remember
set_option maxRecDepth 20000 in
theorem ggX7_puts_X6_passes : GoodIn wsX7_puts wsX6_passes := goodIn_r _ [42, 43, 44, 45, 41, 46, 47, 48, 49, 50, 51, 52, 53, 54, 55, 56, 57, 58, 59, 60, 61, 62, 63, 64, 65, 66, 67, 8, 68, 69, 70, 71, 72, 73, 74, 75, 76, 77, 78, 79, 80, 81, 82, 83, 111, 112, 101, 102, 103, 104, 105, 106, 107, 113, 114, 115, 116, 117, 118, 119] (by decide +kernel) (by decide +kernel)
set_option maxRecDepth 20000 in
theorem gX7_puts_X6_passes : GoodIn wsX7_puts (wsV RX7 178 RX6 yX6_passes wsX6_passes) := goodIn_app (goodIn_of _ (by decide +kernel)) ggX7_puts_X6_passes
set_option maxRecDepth 20000 in
theorem ggX7_puts_X2_cool : GoodIn wsX7_puts wsX2_cool := goodIn_r _ [87, 32, 101, 102, 103, 104, 105, 106, 107] (by decide +kernel) (by decide +kernel)
set_option maxRecDepth 20000 in
theorem gX7_puts_X2_cool : GoodIn wsX7_puts (wsV RX7 181 RX2 yX2_cool wsX2_cool) := goodIn_app (goodIn_of _ (by decide +kernel)) ggX7_puts_X2_cool
theorem dX7_puts_0 : decode cX7_puts 0 = .ok (.iload_n 1, 1) := by decide +kernel
theorem dX7_puts_1 : decode cX7_puts 1 = .ok (.invokestatic 149, 3) := by decide +kernel
theorem dX7_puts_4 : decode cX7_puts 4 = .ok (.ifCond .eq 5, 3) := by decide +kernel
theorem dX7_puts_7 : decode cX7_puts 7 = .ok (.iconst (-1), 1) := by decide +kernel
theorem dX7_puts_8 : decode cX7_puts 8 = .ok (.ireturn, 1) := by decide +kernel
theorem dX7_puts_9 : decode cX7_puts 9 = .ok (.aload_n 0, 1) := by decide +kernel
theorem dX7_puts_10 : decode cX7_puts 10 = .ok (.getfield 39, 3) := by decide +kernel
theorem dX7_puts_13 : decode cX7_puts 13 = .ok (.getfield 162, 3) := by decide +kernel
theorem dX7_puts_16 : decode cX7_puts 16 = .ok (.sipush 999, 3) := by decide +kernel
theorem dX7_puts_19 : decode cX7_puts 19 = .ok (.if_icmp .lt 6, 3) := by decide +kernel
theorem dX7_puts_22 : decode cX7_puts 22 = .ok (.bipush (-2), 2) := by decide +kernel
theorem dX7_puts_24 : decode cX7_puts 24 = .ok (.ireturn, 1) := by decide +kernel
theorem dX7_puts_25 : decode cX7_puts 25 = .ok (.aload_n 0, 1) := by decide +kernel
theorem dX7_puts_26 : decode cX7_puts 26 = .ok (.getfield 71, 3) := by decide +kernel
theorem dX7_puts_29 : decode cX7_puts 29 = .ok (.aload_n 0, 1) := by decide +kernel
theorem dX7_puts_30 : decode cX7_puts 30 = .ok (.getfield 39, 3) := by decide +kernel
theorem dX7_puts_33 : decode cX7_puts 33 = .ok (.invokevirtual 174, 3) := by decide +kernel
theorem dX7_puts_36 : decode cX7_puts 36 = .ok (.aload_n 0, 1) := by decide +kernel
theorem dX7_puts_37 : decode cX7_puts 37 = .ok (.getfield 48, 3) := by decide +kernel
theorem dX7_puts_40 : decode cX7_puts 40 = .ok (.iload_n 1, 1) := by decide +kernel
theorem dX7_puts_41 : decode cX7_puts 41 = .ok (.invokevirtual 178, 3) := by decide +kernel
theorem dX7_puts_44 : decode cX7_puts 44 = .ok (.ifCond .eq 7, 3) := by decide +kernel
theorem dX7_puts_47 : decode cX7_puts 47 = .ok (.iconst 1, 1) := by decide +kernel
theorem dX7_puts_48 : decode cX7_puts 48 = .ok (.goto 4, 3) := by decide +kernel
theorem dX7_puts_51 : decode cX7_puts 51 = .ok (.iconst 0, 1) := by decide +kernel
theorem dX7_puts_52 : decode cX7_puts 52 = .ok (.istore_n 2, 1) := by decide +kernel
theorem dX7_puts_53 : decode cX7_puts 53 = .ok (.aload_n 0, 1) := by decide +kernel
theorem dX7_puts_54 : decode cX7_puts 54 = .ok (.getfield 39, 3) := by decide +kernel
theorem dX7_puts_57 : decode cX7_puts 57 = .ok (.dup, 1) := by decide +kernel
theorem dX7_puts_58 : decode cX7_puts 58 = .ok (.getfield 162, 3) := by decide +kernel
theorem dX7_puts_61 : decode cX7_puts 61 = .ok (.iconst 1, 1) := by decide +kernel
theorem dX7_puts_62 : decode cX7_puts 62 = .ok (.iadd, 1) := by decide +kernel
theorem dX7_puts_63 : decode cX7_puts 63 = .ok (.putfield 162, 3) := by decide +kernel
theorem dX7_puts_66 : decode cX7_puts 66 = .ok (.aload_n 0, 1) := by decide +kernel
theorem dX7_puts_67 : decode cX7_puts 67 = .ok (.getfield 39, 3) := by decide +kernel
theorem dX7_puts_70 : decode cX7_puts 70 = .ok (.dup, 1) := by decide +kernel
theorem dX7_puts_71 : decode cX7_puts 71 = .ok (.getfield 165, 3) := by decide +kernel
theorem dX7_puts_74 : decode cX7_puts 74 = .ok (.iload_n 2, 1) := by decide +kernel
theorem dX7_puts_75 : decode cX7_puts 75 = .ok (.iadd, 1) := by decide +kernel
theorem dX7_puts_76 : decode cX7_puts 76 = .ok (.putfield 165, 3) := by decide +kernel
theorem dX7_puts_79 : decode cX7_puts 79 = .ok (.aload_n 0, 1) := by decide +kernel
theorem dX7_puts_80 : decode cX7_puts 80 = .ok (.getfield 39, 3) := by decide +kernel
theorem dX7_puts_83 : decode cX7_puts 83 = .ok (.invokevirtual 181, 3) := by decide +kernel
theorem dX7_puts_86 : decode cX7_puts 86 = .ok (.iload_n 2, 1) := by decide +kernel
theorem dX7_puts_87 : decode cX7_puts 87 = .ok (.ireturn, 1) := by decide +kernel
set_option maxRecDepth 20000 in
theorem ggX7_hands_X7_noThing : GoodIn wsX7_hands wsX7_noThing := goodIn_r _ [8, 9, 10, 44, 45, 46, 47, 48, 49, 50, 51, 52, 53, 54, 55, 56, 64, 65, 66, 67, 68, 69, 70] (by decide +kernel) (by decide +kernel)
set_option maxRecDepth 20000 in
theorem gX7_hands_X7_noThing : GoodIn wsX7_hands (wsV RX7 103 RX7 yX7_noThing wsX7_noThing) := goodIn_app (goodIn_of _ (by decide +kernel)) ggX7_hands_X7_noThing
set_option maxRecDepth 20000 in
theorem ggX7_hands_X7_noOfficer : GoodIn wsX7_hands wsX7_noOfficer := goodIn_r _ [14, 9, 15, 44, 45, 46, 47, 48, 49, 50, 51, 52, 53, 54, 55, 56, 64, 65, 66, 67, 68, 69, 70] (by decide +kernel) (by decide +kernel)
set_option maxRecDepth 20000 in
theorem gX7_hands_X7_noOfficer : GoodIn wsX7_hands (wsV RX7 137 RX7 yX7_noOfficer wsX7_noOfficer) := goodIn_app (goodIn_of _ (by decide +kernel)) ggX7_hands_X7_noOfficer
set_option maxRecDepth 20000 in
theorem ggX7_hands_X3_remember : GoodIn wsX7_hands wsX3_remember := goodIn_r _ [20, 21, 22, 23, 24, 25, 26, 27, 28, 29, 30, 31, 32, 33, 34, 35, 36, 37, 38, 39, 40, 41, 42, 43, 71, 72, 73, 57, 58, 59, 60, 61, 62, 63] (by decide +kernel) (by decide +kernel)
set_option maxRecDepth 20000 in
theorem gX7_hands_X3_remember : GoodIn wsX7_hands (wsV RX7 174 RX3 yX3_remember wsX3_remember) := goodIn_app (goodIn_of _ (by decide +kernel)) ggX7_hands_X3_remember
theorem dX7_hands_0 : decode cX7_hands 0 = .ok (.aload_n 0, 1) := by decide +kernel
theorem dX7_hands_1 : decode cX7_hands 1 = .ok (.iload_n 1, 1) := by decide +kernel
theorem dX7_hands_2 : decode cX7_hands 2 = .ok (.invokevirtual 103, 3) := by decide +kernel
theorem dX7_hands_5 : decode cX7_hands 5 = .ok (.ifCond .ne 11, 3) := by decide +kernel
theorem dX7_hands_8 : decode cX7_hands 8 = .ok (.aload_n 0, 1) := by decide +kernel
theorem dX7_hands_9 : decode cX7_hands 9 = .ok (.iload_n 2, 1) := by decide +kernel
theorem dX7_hands_10 : decode cX7_hands 10 = .ok (.invokevirtual 137, 3) := by decide +kernel
theorem dX7_hands_13 : decode cX7_hands 13 = .ok (.ifCond .eq 5, 3) := by decide +kernel
theorem dX7_hands_16 : decode cX7_hands 16 = .ok (.iconst (-1), 1) := by decide +kernel
theorem dX7_hands_17 : decode cX7_hands 17 = .ok (.ireturn, 1) := by decide +kernel
theorem dX7_hands_18 : decode cX7_hands 18 = .ok (.aload_n 0, 1) := by decide +kernel
theorem dX7_hands_19 : decode cX7_hands 19 = .ok (.getfield 71, 3) := by decide +kernel
theorem dX7_hands_22 : decode cX7_hands 22 = .ok (.aload_n 0, 1) := by decide +kernel
theorem dX7_hands_23 : decode cX7_hands 23 = .ok (.getfield 39, 3) := by decide +kernel
theorem dX7_hands_26 : decode cX7_hands 26 = .ok (.invokevirtual 174, 3) := by decide +kernel
theorem dX7_hands_29 : decode cX7_hands 29 = .ok (.aload_n 0, 1) := by decide +kernel
theorem dX7_hands_30 : decode cX7_hands 30 = .ok (.getfield 39, 3) := by decide +kernel
theorem dX7_hands_33 : decode cX7_hands 33 = .ok (.getfield 117, 3) := by decide +kernel
theorem dX7_hands_36 : decode cX7_hands 36 = .ok (.iload_n 1, 1) := by decide +kernel
theorem dX7_hands_37 : decode cX7_hands 37 = .ok (.iaload, 1) := by decide +kernel
theorem dX7_hands_38 : decode cX7_hands 38 = .ok (.istore_n 3, 1) := by decide +kernel
theorem dX7_hands_39 : decode cX7_hands 39 = .ok (.aload_n 0, 1) := by decide +kernel
theorem dX7_hands_40 : decode cX7_hands 40 = .ok (.getfield 39, 3) := by decide +kernel
theorem dX7_hands_43 : decode cX7_hands 43 = .ok (.getfield 117, 3) := by decide +kernel
theorem dX7_hands_46 : decode cX7_hands 46 = .ok (.iload_n 1, 1) := by decide +kernel
theorem dX7_hands_47 : decode cX7_hands 47 = .ok (.iload_n 2, 1) := by decide +kernel
theorem dX7_hands_48 : decode cX7_hands 48 = .ok (.iastore, 1) := by decide +kernel
theorem dX7_hands_49 : decode cX7_hands 49 = .ok (.iload_n 3, 1) := by decide +kernel
theorem dX7_hands_50 : decode cX7_hands 50 = .ok (.ireturn, 1) := by decide +kernel
set_option maxRecDepth 20000 in
theorem ggX7_washes_X7_noThing : GoodIn wsX7_washes wsX7_noThing := goodIn_r _ [8, 9, 10, 49, 50, 51, 52, 53, 54, 55, 56, 57, 58, 59, 60, 61, 69, 70, 71, 72, 73, 74, 75] (by decide +kernel) (by decide +kernel)
set_option maxRecDepth 20000 in
theorem gX7_washes_X7_noThing : GoodIn wsX7_washes (wsV RX7 103 RX7 yX7_noThing wsX7_noThing) := goodIn_app (goodIn_of _ (by decide +kernel)) ggX7_washes_X7_noThing
set_option maxRecDepth 20000 in
theorem ggX7_washes_X7_bit : GoodIn wsX7_washes wsX7_bit := goodIn_r _ [13] (by decide +kernel) (by decide +kernel)
set_option maxRecDepth 20000 in
theorem gX7_washes_X7_bit : GoodIn wsX7_washes (va_wsS RX7 123 yX7_bit wsX7_bit) := goodIn_app (goodIn_of _ (by decide +kernel)) ggX7_washes_X7_bit
set_option maxRecDepth 20000 in
theorem ggX7_washes_X3_remember : GoodIn wsX7_washes wsX3_remember := goodIn_r _ [18, 19, 20, 21, 22, 23, 24, 25, 26, 27, 28, 29, 30, 31, 32, 33, 34, 35, 36, 37, 38, 39, 40, 41, 76, 77, 78, 62, 63, 64, 65, 66, 67, 68] (by decide +kernel) (by decide +kernel)
set_option maxRecDepth 20000 in
theorem gX7_washes_X3_remember : GoodIn wsX7_washes (wsV RX7 174 RX3 yX3_remember wsX3_remember) := goodIn_app (goodIn_of _ (by decide +kernel)) ggX7_washes_X3_remember
set_option maxRecDepth 20000 in
theorem ggX7_washes_J6_bitCount_0f7a4 : GoodIn wsX7_washes wsJ6_bitCount_0f7a4 := goodIn_r _ [45, 46, 47, 48] (by decide +kernel) (by decide +kernel)
set_option maxRecDepth 20000 in
theorem gX7_washes_J6_bitCount_0f7a4 : GoodIn wsX7_washes (va_wsS RX7 184 yJ6_bitCount_0f7a4 wsJ6_bitCount_0f7a4) := goodIn_app (goodIn_of _ (by decide +kernel)) ggX7_washes_J6_bitCount_0f7a4
theorem dX7_washes_0 : decode cX7_washes 0 = .ok (.aload_n 0, 1) := by decide +kernel
theorem dX7_washes_1 : decode cX7_washes 1 = .ok (.iload_n 1, 1) := by decide +kernel
theorem dX7_washes_2 : decode cX7_washes 2 = .ok (.invokevirtual 103, 3) := by decide +kernel
theorem dX7_washes_5 : decode cX7_washes 5 = .ok (.ifCond .eq 5, 3) := by decide +kernel
theorem dX7_washes_8 : decode cX7_washes 8 = .ok (.iconst (-1), 1) := by decide +kernel
theorem dX7_washes_9 : decode cX7_washes 9 = .ok (.ireturn, 1) := by decide +kernel
theorem dX7_washes_10 : decode cX7_washes 10 = .ok (.aload_n 0, 1) := by decide +kernel
theorem dX7_washes_11 : decode cX7_washes 11 = .ok (.getfield 39, 3) := by decide +kernel
theorem dX7_washes_14 : decode cX7_washes 14 = .ok (.getfield 120, 3) := by decide +kernel
theorem dX7_washes_17 : decode cX7_washes 17 = .ok (.iload_n 1, 1) := by decide +kernel
theorem dX7_washes_18 : decode cX7_washes 18 = .ok (.invokestatic 123, 3) := by decide +kernel
theorem dX7_washes_21 : decode cX7_washes 21 = .ok (.iconst 1, 1) := by decide +kernel
theorem dX7_washes_22 : decode cX7_washes 22 = .ok (.if_icmp .ne 6, 3) := by decide +kernel
theorem dX7_washes_25 : decode cX7_washes 25 = .ok (.bipush (-2), 2) := by decide +kernel
theorem dX7_washes_27 : decode cX7_washes 27 = .ok (.ireturn, 1) := by decide +kernel
theorem dX7_washes_28 : decode cX7_washes 28 = .ok (.aload_n 0, 1) := by decide +kernel
theorem dX7_washes_29 : decode cX7_washes 29 = .ok (.getfield 71, 3) := by decide +kernel
theorem dX7_washes_32 : decode cX7_washes 32 = .ok (.aload_n 0, 1) := by decide +kernel
theorem dX7_washes_33 : decode cX7_washes 33 = .ok (.getfield 39, 3) := by decide +kernel
theorem dX7_washes_36 : decode cX7_washes 36 = .ok (.invokevirtual 174, 3) := by decide +kernel
theorem dX7_washes_39 : decode cX7_washes 39 = .ok (.aload_n 0, 1) := by decide +kernel
theorem dX7_washes_40 : decode cX7_washes 40 = .ok (.getfield 39, 3) := by decide +kernel
theorem dX7_washes_43 : decode cX7_washes 43 = .ok (.dup, 1) := by decide +kernel
theorem dX7_washes_44 : decode cX7_washes 44 = .ok (.getfield 120, 3) := by decide +kernel
theorem dX7_washes_47 : decode cX7_washes 47 = .ok (.iconst 1, 1) := by decide +kernel
theorem dX7_washes_48 : decode cX7_washes 48 = .ok (.iload_n 1, 1) := by decide +kernel
theorem dX7_washes_49 : decode cX7_washes 49 = .ok (.ishl, 1) := by decide +kernel
theorem dX7_washes_50 : decode cX7_washes 50 = .ok (.ior, 1) := by decide +kernel
theorem dX7_washes_51 : decode cX7_washes 51 = .ok (.putfield 120, 3) := by decide +kernel
theorem dX7_washes_54 : decode cX7_washes 54 = .ok (.aload_n 0, 1) := by decide +kernel
theorem dX7_washes_55 : decode cX7_washes 55 = .ok (.getfield 39, 3) := by decide +kernel
theorem dX7_washes_58 : decode cX7_washes 58 = .ok (.getfield 120, 3) := by decide +kernel
theorem dX7_washes_61 : decode cX7_washes 61 = .ok (.invokestatic 184, 3) := by decide +kernel
theorem dX7_washes_64 : decode cX7_washes 64 = .ok (.ireturn, 1) := by decide +kernel
set_option maxRecDepth 20000 in
theorem ggX7_hangs_X7_noThing : GoodIn wsX7_hangs wsX7_noThing := goodIn_r _ [11, 4, 12, 44, 45, 46, 47, 48, 49, 50, 51, 52, 53, 54, 55, 56, 64, 65, 66, 67, 68, 69, 70] (by decide +kernel) (by decide +kernel)
set_option maxRecDepth 20000 in
theorem gX7_hangs_X7_noThing : GoodIn wsX7_hangs (wsV RX7 103 RX7 yX7_noThing wsX7_noThing) := goodIn_app (goodIn_of _ (by decide +kernel)) ggX7_hangs_X7_noThing
set_option maxRecDepth 20000 in
theorem ggX7_hangs_X7_bit : GoodIn wsX7_hangs wsX7_bit := goodIn_r _ [15] (by decide +kernel) (by decide +kernel)
set_option maxRecDepth 20000 in
theorem gX7_hangs_X7_bit : GoodIn wsX7_hangs (va_wsS RX7 123 yX7_bit wsX7_bit) := goodIn_app (goodIn_of _ (by decide +kernel)) ggX7_hangs_X7_bit
set_option maxRecDepth 20000 in
theorem ggX7_hangs_X3_remember : GoodIn wsX7_hangs wsX3_remember := goodIn_r _ [20, 21, 22, 23, 24, 25, 26, 27, 28, 29, 30, 31, 32, 33, 34, 35, 36, 37, 38, 39, 40, 41, 42, 43, 71, 72, 73, 57, 58, 59, 60, 61, 62, 63] (by decide +kernel) (by decide +kernel)
set_option maxRecDepth 20000 in
theorem gX7_hangs_X3_remember : GoodIn wsX7_hangs (wsV RX7 174 RX3 yX3_remember wsX3_remember) := goodIn_app (goodIn_of _ (by decide +kernel)) ggX7_hangs_X3_remember
theorem dX7_hangs_0 : decode cX7_hangs 0 = .ok (.aload_n 0, 1) := by decide +kernel
theorem dX7_hangs_1 : decode cX7_hangs 1 = .ok (.iload_n 1, 1) := by decide +kernel
theorem dX7_hangs_2 : decode cX7_hangs 2 = .ok (.invokevirtual 103, 3) := by decide +kernel
theorem dX7_hangs_5 : decode cX7_hangs 5 = .ok (.ifCond .eq 5, 3) := by decide +kernel
theorem dX7_hangs_8 : decode cX7_hangs 8 = .ok (.iconst (-1), 1) := by decide +kernel
theorem dX7_hangs_9 : decode cX7_hangs 9 = .ok (.ireturn, 1) := by decide +kernel
theorem dX7_hangs_10 : decode cX7_hangs 10 = .ok (.aload_n 0, 1) := by decide +kernel
theorem dX7_hangs_11 : decode cX7_hangs 11 = .ok (.getfield 39, 3) := by decide +kernel
theorem dX7_hangs_14 : decode cX7_hangs 14 = .ok (.getfield 120, 3) := by decide +kernel
theorem dX7_hangs_17 : decode cX7_hangs 17 = .ok (.iload_n 1, 1) := by decide +kernel
theorem dX7_hangs_18 : decode cX7_hangs 18 = .ok (.invokestatic 123, 3) := by decide +kernel
theorem dX7_hangs_21 : decode cX7_hangs 21 = .ok (.ifCond .ne 6, 3) := by decide +kernel
theorem dX7_hangs_24 : decode cX7_hangs 24 = .ok (.bipush (-2), 2) := by decide +kernel
theorem dX7_hangs_26 : decode cX7_hangs 26 = .ok (.ireturn, 1) := by decide +kernel
theorem dX7_hangs_27 : decode cX7_hangs 27 = .ok (.aload_n 0, 1) := by decide +kernel
theorem dX7_hangs_28 : decode cX7_hangs 28 = .ok (.getfield 71, 3) := by decide +kernel
theorem dX7_hangs_31 : decode cX7_hangs 31 = .ok (.aload_n 0, 1) := by decide +kernel
theorem dX7_hangs_32 : decode cX7_hangs 32 = .ok (.getfield 39, 3) := by decide +kernel
theorem dX7_hangs_35 : decode cX7_hangs 35 = .ok (.invokevirtual 174, 3) := by decide +kernel
theorem dX7_hangs_38 : decode cX7_hangs 38 = .ok (.aload_n 0, 1) := by decide +kernel
theorem dX7_hangs_39 : decode cX7_hangs 39 = .ok (.getfield 39, 3) := by decide +kernel
theorem dX7_hangs_42 : decode cX7_hangs 42 = .ok (.dup, 1) := by decide +kernel
theorem dX7_hangs_43 : decode cX7_hangs 43 = .ok (.getfield 120, 3) := by decide +kernel
theorem dX7_hangs_46 : decode cX7_hangs 46 = .ok (.iconst 1, 1) := by decide +kernel
theorem dX7_hangs_47 : decode cX7_hangs 47 = .ok (.iload_n 1, 1) := by decide +kernel
theorem dX7_hangs_48 : decode cX7_hangs 48 = .ok (.ishl, 1) := by decide +kernel
theorem dX7_hangs_49 : decode cX7_hangs 49 = .ok (.iconst (-1), 1) := by decide +kernel
theorem dX7_hangs_50 : decode cX7_hangs 50 = .ok (.ixor, 1) := by decide +kernel
theorem dX7_hangs_51 : decode cX7_hangs 51 = .ok (.iand, 1) := by decide +kernel
theorem dX7_hangs_52 : decode cX7_hangs 52 = .ok (.putfield 120, 3) := by decide +kernel
theorem dX7_hangs_55 : decode cX7_hangs 55 = .ok (.aload_n 0, 1) := by decide +kernel
theorem dX7_hangs_56 : decode cX7_hangs 56 = .ok (.getfield 20, 3) := by decide +kernel
theorem dX7_hangs_59 : decode cX7_hangs 59 = .ok (.getfield 107, 3) := by decide +kernel
theorem dX7_hangs_62 : decode cX7_hangs 62 = .ok (.iload_n 1, 1) := by decide +kernel
theorem dX7_hangs_63 : decode cX7_hangs 63 = .ok (.iaload, 1) := by decide +kernel
theorem dX7_hangs_64 : decode cX7_hangs 64 = .ok (.iconst 2, 1) := by decide +kernel
theorem dX7_hangs_65 : decode cX7_hangs 65 = .ok (.if_icmp .ne 18, 3) := by decide +kernel
theorem dX7_hangs_68 : decode cX7_hangs 68 = .ok (.aload_n 0, 1) := by decide +kernel
theorem dX7_hangs_69 : decode cX7_hangs 69 = .ok (.getfield 39, 3) := by decide +kernel
theorem dX7_hangs_72 : decode cX7_hangs 72 = .ok (.dup, 1) := by decide +kernel
theorem dX7_hangs_73 : decode cX7_hangs 73 = .ok (.getfield 127, 3) := by decide +kernel
theorem dX7_hangs_76 : decode cX7_hangs 76 = .ok (.iconst 1, 1) := by decide +kernel
theorem dX7_hangs_77 : decode cX7_hangs 77 = .ok (.iload_n 1, 1) := by decide +kernel
theorem dX7_hangs_78 : decode cX7_hangs 78 = .ok (.ishl, 1) := by decide +kernel
theorem dX7_hangs_79 : decode cX7_hangs 79 = .ok (.ixor, 1) := by decide +kernel
theorem dX7_hangs_80 : decode cX7_hangs 80 = .ok (.putfield 127, 3) := by decide +kernel
theorem dX7_hangs_83 : decode cX7_hangs 83 = .ok (.aload_n 0, 1) := by decide +kernel
theorem dX7_hangs_84 : decode cX7_hangs 84 = .ok (.getfield 39, 3) := by decide +kernel
theorem dX7_hangs_87 : decode cX7_hangs 87 = .ok (.getfield 127, 3) := by decide +kernel
theorem dX7_hangs_90 : decode cX7_hangs 90 = .ok (.iload_n 1, 1) := by decide +kernel
theorem dX7_hangs_91 : decode cX7_hangs 91 = .ok (.invokestatic 123, 3) := by decide +kernel
theorem dX7_hangs_94 : decode cX7_hangs 94 = .ok (.ireturn, 1) := by decide +kernel
set_option maxRecDepth 20000 in
theorem ggX7_warms_X7_noThing : GoodIn wsX7_warms wsX7_noThing := goodIn_r _ [11, 1, 12, 41, 42, 43, 44, 45, 46, 47, 48, 49, 50, 51, 52, 53, 54, 55, 56, 57, 58, 59, 60] (by decide +kernel) (by decide +kernel)
set_option maxRecDepth 20000 in
theorem gX7_warms_X7_noThing : GoodIn wsX7_warms (wsV RX7 103 RX7 yX7_noThing wsX7_noThing) := goodIn_app (goodIn_of _ (by decide +kernel)) ggX7_warms_X7_noThing
set_option maxRecDepth 20000 in
theorem ggX7_warms_X3_remember : GoodIn wsX7_warms wsX3_remember := goodIn_r _ [17, 18, 19, 20, 21, 22, 23, 24, 25, 26, 27, 28, 29, 30, 31, 32, 33, 34, 35, 36, 37, 38, 39, 40, 68, 69, 70, 61, 62, 63, 64, 65, 66, 67] (by decide +kernel) (by decide +kernel)
set_option maxRecDepth 20000 in
theorem gX7_warms_X3_remember : GoodIn wsX7_warms (wsV RX7 174 RX3 yX3_remember wsX3_remember) := goodIn_app (goodIn_of _ (by decide +kernel)) ggX7_warms_X3_remember
theorem dX7_warms_0 : decode cX7_warms 0 = .ok (.aload_n 0, 1) := by decide +kernel
theorem dX7_warms_1 : decode cX7_warms 1 = .ok (.iload_n 1, 1) := by decide +kernel
theorem dX7_warms_2 : decode cX7_warms 2 = .ok (.invokevirtual 103, 3) := by decide +kernel
theorem dX7_warms_5 : decode cX7_warms 5 = .ok (.ifCond .eq 5, 3) := by decide +kernel
theorem dX7_warms_8 : decode cX7_warms 8 = .ok (.iconst (-1), 1) := by decide +kernel
theorem dX7_warms_9 : decode cX7_warms 9 = .ok (.ireturn, 1) := by decide +kernel
theorem dX7_warms_10 : decode cX7_warms 10 = .ok (.aload_n 0, 1) := by decide +kernel
theorem dX7_warms_11 : decode cX7_warms 11 = .ok (.getfield 20, 3) := by decide +kernel
theorem dX7_warms_14 : decode cX7_warms 14 = .ok (.getfield 107, 3) := by decide +kernel
theorem dX7_warms_17 : decode cX7_warms 17 = .ok (.iload_n 1, 1) := by decide +kernel
theorem dX7_warms_18 : decode cX7_warms 18 = .ok (.iaload, 1) := by decide +kernel
theorem dX7_warms_19 : decode cX7_warms 19 = .ok (.iconst 1, 1) := by decide +kernel
theorem dX7_warms_20 : decode cX7_warms 20 = .ok (.if_icmp .eq 6, 3) := by decide +kernel
theorem dX7_warms_23 : decode cX7_warms 23 = .ok (.bipush (-2), 2) := by decide +kernel
theorem dX7_warms_25 : decode cX7_warms 25 = .ok (.ireturn, 1) := by decide +kernel
theorem dX7_warms_26 : decode cX7_warms 26 = .ok (.aload_n 0, 1) := by decide +kernel
theorem dX7_warms_27 : decode cX7_warms 27 = .ok (.getfield 71, 3) := by decide +kernel
theorem dX7_warms_30 : decode cX7_warms 30 = .ok (.aload_n 0, 1) := by decide +kernel
theorem dX7_warms_31 : decode cX7_warms 31 = .ok (.getfield 39, 3) := by decide +kernel
theorem dX7_warms_34 : decode cX7_warms 34 = .ok (.invokevirtual 174, 3) := by decide +kernel
theorem dX7_warms_37 : decode cX7_warms 37 = .ok (.aload_n 0, 1) := by decide +kernel
theorem dX7_warms_38 : decode cX7_warms 38 = .ok (.getfield 39, 3) := by decide +kernel
theorem dX7_warms_41 : decode cX7_warms 41 = .ok (.getfield 130, 3) := by decide +kernel
theorem dX7_warms_44 : decode cX7_warms 44 = .ok (.iload_n 1, 1) := by decide +kernel
theorem dX7_warms_45 : decode cX7_warms 45 = .ok (.iaload, 1) := by decide +kernel
theorem dX7_warms_46 : decode cX7_warms 46 = .ok (.istore_n 2, 1) := by decide +kernel
theorem dX7_warms_47 : decode cX7_warms 47 = .ok (.aload_n 0, 1) := by decide +kernel
theorem dX7_warms_48 : decode cX7_warms 48 = .ok (.getfield 39, 3) := by decide +kernel
theorem dX7_warms_51 : decode cX7_warms 51 = .ok (.getfield 130, 3) := by decide +kernel
theorem dX7_warms_54 : decode cX7_warms 54 = .ok (.iload_n 1, 1) := by decide +kernel
theorem dX7_warms_55 : decode cX7_warms 55 = .ok (.aload_n 0, 1) := by decide +kernel
theorem dX7_warms_56 : decode cX7_warms 56 = .ok (.getfield 20, 3) := by decide +kernel
theorem dX7_warms_59 : decode cX7_warms 59 = .ok (.getfield 189, 3) := by decide +kernel
theorem dX7_warms_62 : decode cX7_warms 62 = .ok (.iastore, 1) := by decide +kernel
theorem dX7_warms_63 : decode cX7_warms 63 = .ok (.iload_n 2, 1) := by decide +kernel
theorem dX7_warms_64 : decode cX7_warms 64 = .ok (.ireturn, 1) := by decide +kernel
set_option maxRecDepth 20000 in
theorem ggX7_sickens_X7_noOfficer : GoodIn wsX7_sickens wsX7_noOfficer := goodIn_r _ [8, 9, 10, 42, 43, 44, 45, 46, 47, 48, 49, 50, 51, 52, 53, 54, 62, 63, 64, 65, 66, 67, 68] (by decide +kernel) (by decide +kernel)
set_option maxRecDepth 20000 in
theorem gX7_sickens_X7_noOfficer : GoodIn wsX7_sickens (wsV RX7 137 RX7 yX7_noOfficer wsX7_noOfficer) := goodIn_app (goodIn_of _ (by decide +kernel)) ggX7_sickens_X7_noOfficer
set_option maxRecDepth 20000 in
theorem ggX7_sickens_X3_remember : GoodIn wsX7_sickens wsX3_remember := goodIn_r _ [15, 16, 17, 18, 19, 20, 21, 22, 23, 24, 25, 26, 27, 28, 29, 30, 31, 32, 33, 34, 35, 36, 37, 38, 69, 70, 71, 55, 56, 57, 58, 59, 60, 61] (by decide +kernel) (by decide +kernel)
set_option maxRecDepth 20000 in
theorem gX7_sickens_X3_remember : GoodIn wsX7_sickens (wsV RX7 174 RX3 yX3_remember wsX3_remember) := goodIn_app (goodIn_of _ (by decide +kernel)) ggX7_sickens_X3_remember
set_option maxRecDepth 20000 in
theorem ggX7_sickens_X7_bit : GoodIn wsX7_sickens wsX7_bit := goodIn_r _ [41] (by decide +kernel) (by decide +kernel)
set_option maxRecDepth 20000 in
theorem gX7_sickens_X7_bit : GoodIn wsX7_sickens (va_wsS RX7 123 yX7_bit wsX7_bit) := goodIn_app (goodIn_of _ (by decide +kernel)) ggX7_sickens_X7_bit
theorem dX7_sickens_0 : decode cX7_sickens 0 = .ok (.aload_n 0, 1) := by decide +kernel
theorem dX7_sickens_1 : decode cX7_sickens 1 = .ok (.iload_n 1, 1) := by decide +kernel
theorem dX7_sickens_2 : decode cX7_sickens 2 = .ok (.invokevirtual 137, 3) := by decide +kernel
theorem dX7_sickens_5 : decode cX7_sickens 5 = .ok (.ifCond .ne 12, 3) := by decide +kernel
theorem dX7_sickens_8 : decode cX7_sickens 8 = .ok (.iload_n 2, 1) := by decide +kernel
theorem dX7_sickens_9 : decode cX7_sickens 9 = .ok (.ifCond .lt 8, 3) := by decide +kernel
theorem dX7_sickens_12 : decode cX7_sickens 12 = .ok (.iload_n 2, 1) := by decide +kernel
theorem dX7_sickens_13 : decode cX7_sickens 13 = .ok (.iconst 1, 1) := by decide +kernel
theorem dX7_sickens_14 : decode cX7_sickens 14 = .ok (.if_icmp .le 5, 3) := by decide +kernel
theorem dX7_sickens_17 : decode cX7_sickens 17 = .ok (.iconst (-1), 1) := by decide +kernel
theorem dX7_sickens_18 : decode cX7_sickens 18 = .ok (.ireturn, 1) := by decide +kernel
theorem dX7_sickens_19 : decode cX7_sickens 19 = .ok (.aload_n 0, 1) := by decide +kernel
theorem dX7_sickens_20 : decode cX7_sickens 20 = .ok (.getfield 71, 3) := by decide +kernel
theorem dX7_sickens_23 : decode cX7_sickens 23 = .ok (.aload_n 0, 1) := by decide +kernel
theorem dX7_sickens_24 : decode cX7_sickens 24 = .ok (.getfield 39, 3) := by decide +kernel
theorem dX7_sickens_27 : decode cX7_sickens 27 = .ok (.invokevirtual 174, 3) := by decide +kernel
theorem dX7_sickens_30 : decode cX7_sickens 30 = .ok (.aload_n 0, 1) := by decide +kernel
theorem dX7_sickens_31 : decode cX7_sickens 31 = .ok (.getfield 39, 3) := by decide +kernel
theorem dX7_sickens_34 : decode cX7_sickens 34 = .ok (.getfield 140, 3) := by decide +kernel
theorem dX7_sickens_37 : decode cX7_sickens 37 = .ok (.iload_n 1, 1) := by decide +kernel
theorem dX7_sickens_38 : decode cX7_sickens 38 = .ok (.invokestatic 123, 3) := by decide +kernel
theorem dX7_sickens_41 : decode cX7_sickens 41 = .ok (.istore_n 3, 1) := by decide +kernel
theorem dX7_sickens_42 : decode cX7_sickens 42 = .ok (.aload_n 0, 1) := by decide +kernel
theorem dX7_sickens_43 : decode cX7_sickens 43 = .ok (.getfield 39, 3) := by decide +kernel
theorem dX7_sickens_46 : decode cX7_sickens 46 = .ok (.aload_n 0, 1) := by decide +kernel
theorem dX7_sickens_47 : decode cX7_sickens 47 = .ok (.getfield 39, 3) := by decide +kernel
theorem dX7_sickens_50 : decode cX7_sickens 50 = .ok (.getfield 140, 3) := by decide +kernel
theorem dX7_sickens_53 : decode cX7_sickens 53 = .ok (.iconst 1, 1) := by decide +kernel
theorem dX7_sickens_54 : decode cX7_sickens 54 = .ok (.iload_n 1, 1) := by decide +kernel
theorem dX7_sickens_55 : decode cX7_sickens 55 = .ok (.ishl, 1) := by decide +kernel
theorem dX7_sickens_56 : decode cX7_sickens 56 = .ok (.iconst (-1), 1) := by decide +kernel
theorem dX7_sickens_57 : decode cX7_sickens 57 = .ok (.ixor, 1) := by decide +kernel
theorem dX7_sickens_58 : decode cX7_sickens 58 = .ok (.iand, 1) := by decide +kernel
theorem dX7_sickens_59 : decode cX7_sickens 59 = .ok (.iload_n 2, 1) := by decide +kernel
theorem dX7_sickens_60 : decode cX7_sickens 60 = .ok (.iload_n 1, 1) := by decide +kernel
theorem dX7_sickens_61 : decode cX7_sickens 61 = .ok (.ishl, 1) := by decide +kernel
theorem dX7_sickens_62 : decode cX7_sickens 62 = .ok (.ior, 1) := by decide +kernel
theorem dX7_sickens_63 : decode cX7_sickens 63 = .ok (.putfield 140, 3) := by decide +kernel
theorem dX7_sickens_66 : decode cX7_sickens 66 = .ok (.iload_n 3, 1) := by decide +kernel
theorem dX7_sickens_67 : decode cX7_sickens 67 = .ok (.ireturn, 1) := by decide +kernel
set_option maxRecDepth 20000 in
theorem ggX7_undo_X3_recall : GoodIn wsX7_undo wsX3_recall := goodIn_r _ [8, 9, 10, 11, 12, 13, 14, 15, 16, 17, 18, 19, 20, 21, 22, 23, 24, 25, 26, 27, 41, 42, 43, 44, 45, 46, 47, 48, 49, 50] (by decide +kernel) (by decide +kernel)
set_option maxRecDepth 20000 in
theorem gX7_undo_X3_recall : GoodIn wsX7_undo (wsV RX7 191 RX3 yX3_recall wsX3_recall) := goodIn_app (goodIn_of _ (by decide +kernel)) ggX7_undo_X3_recall
theorem dX7_undo_0 : decode cX7_undo 0 = .ok (.aload_n 0, 1) := by decide +kernel
theorem dX7_undo_1 : decode cX7_undo 1 = .ok (.getfield 71, 3) := by decide +kernel
theorem dX7_undo_4 : decode cX7_undo 4 = .ok (.getfield 171, 3) := by decide +kernel
theorem dX7_undo_7 : decode cX7_undo 7 = .ok (.ifCond .ne 6, 3) := by decide +kernel
theorem dX7_undo_10 : decode cX7_undo 10 = .ok (.bipush (-2), 2) := by decide +kernel
theorem dX7_undo_12 : decode cX7_undo 12 = .ok (.ireturn, 1) := by decide +kernel
theorem dX7_undo_13 : decode cX7_undo 13 = .ok (.aload_n 0, 1) := by decide +kernel
theorem dX7_undo_14 : decode cX7_undo 14 = .ok (.getfield 71, 3) := by decide +kernel
theorem dX7_undo_17 : decode cX7_undo 17 = .ok (.aload_n 0, 1) := by decide +kernel
theorem dX7_undo_18 : decode cX7_undo 18 = .ok (.getfield 39, 3) := by decide +kernel
theorem dX7_undo_21 : decode cX7_undo 21 = .ok (.invokevirtual 191, 3) := by decide +kernel
theorem dX7_undo_24 : decode cX7_undo 24 = .ok (.aload_n 0, 1) := by decide +kernel
theorem dX7_undo_25 : decode cX7_undo 25 = .ok (.getfield 71, 3) := by decide +kernel
theorem dX7_undo_28 : decode cX7_undo 28 = .ok (.getfield 171, 3) := by decide +kernel
theorem dX7_undo_31 : decode cX7_undo 31 = .ok (.ireturn, 1) := by decide +kernel
set_option maxRecDepth 20000 in
theorem ggX7_power_X7_noThing : GoodIn wsX7_power wsX7_noThing := goodIn_r _ [7, 8, 9, 79, 80, 81, 82, 83, 84, 85, 86, 87, 88, 89, 90, 91, 92, 93, 94, 95, 96, 97, 98] (by decide +kernel) (by decide +kernel)
set_option maxRecDepth 20000 in
theorem gX7_power_X7_noThing : GoodIn wsX7_power (wsV RX7 103 RX7 yX7_noThing wsX7_noThing) := goodIn_app (goodIn_of _ (by decide +kernel)) ggX7_power_X7_noThing
set_option maxRecDepth 20000 in
theorem ggX7_power_X7_noTerm : GoodIn wsX7_power wsX7_noTerm := goodIn_r _ [12] (by decide +kernel) (by decide +kernel)
set_option maxRecDepth 20000 in
theorem gX7_power_X7_noTerm : GoodIn wsX7_power (va_wsS RX7 194 yX7_noTerm wsX7_noTerm) := goodIn_app (goodIn_of _ (by decide +kernel)) ggX7_power_X7_noTerm
set_option maxRecDepth 20000 in
theorem ggX7_power_X6_voices : GoodIn wsX7_power wsX6_voices := goodIn_r _ [17, 18, 19, 20, 21, 22, 16, 23, 24, 25, 26, 27, 28, 29, 30, 31, 32, 33, 34, 35, 36, 37, 38, 6, 39, 99, 100, 101, 102, 103, 104, 105, 106, 107, 92, 93, 94, 95, 96, 97, 98] (by decide +kernel) (by decide +kernel)
set_option maxRecDepth 20000 in
theorem gX7_power_X6_voices : GoodIn wsX7_power (wsV RX7 133 RX6 yX6_voices wsX6_voices) := goodIn_app (goodIn_of _ (by decide +kernel)) ggX7_power_X6_voices
set_option maxRecDepth 20000 in
theorem ggX7_power_X4_ordersDecided : GoodIn wsX7_power wsX4_ordersDecided := goodIn_r _ [44, 45, 6, 46, 47, 48, 49, 43, 50, 51, 52, 53, 54, 16, 55, 28, 29, 56, 38, 39, 57, 58, 59, 60, 61, 62, 63, 64, 65, 66, 67, 108, 99, 100, 92, 93, 94, 95, 96, 97, 98] (by decide +kernel) (by decide +kernel)
set_option maxRecDepth 20000 in
theorem gX7_power_X4_ordersDecided : GoodIn wsX7_power (wsV RX7 197 RX4 yX4_ordersDecided wsX4_ordersDecided) := goodIn_app (goodIn_of _ (by decide +kernel)) ggX7_power_X4_ordersDecided
set_option maxRecDepth 20000 in
theorem ggX7_power_X4_orders : GoodIn wsX7_power wsX4_orders := goodIn_r _ [71, 51, 72, 14, 15, 16, 17, 18, 19, 20, 21, 22, 23, 24, 25, 26, 27, 28, 29, 30, 31, 32, 33, 34, 35, 36, 37, 38, 6, 39, 57, 58, 59, 60, 61, 62, 63, 64, 65, 43, 66, 67, 108, 99, 100, 101, 102, 103, 104, 105, 106, 107, 92, 93, 94, 95, 96, 97, 98] (by decide +kernel) (by decide +kernel)
set_option maxRecDepth 20000 in
theorem gX7_power_X4_orders : GoodIn wsX7_power (wsV RX7 200 RX4 yX4_orders wsX4_orders) := goodIn_app (goodIn_of _ (by decide +kernel)) ggX7_power_X4_orders
set_option maxRecDepth 20000 in
theorem ggX7_power_X7_term : GoodIn wsX7_power wsX7_term := goodIn_r _ [75, 76, 77, 6, 78] (by decide +kernel) (by decide +kernel)
set_option maxRecDepth 20000 in
theorem gX7_power_X7_term : GoodIn wsX7_power (va_wsS RX7 203 yX7_term wsX7_term) := goodIn_app (goodIn_of _ (by decide +kernel)) ggX7_power_X7_term
theorem dX7_power_0 : decode cX7_power 0 = .ok (.aload_n 0, 1) := by decide +kernel
theorem dX7_power_1 : decode cX7_power 1 = .ok (.iload_n 1, 1) := by decide +kernel
theorem dX7_power_2 : decode cX7_power 2 = .ok (.invokevirtual 103, 3) := by decide +kernel
theorem dX7_power_5 : decode cX7_power 5 = .ok (.ifCond .ne 10, 3) := by decide +kernel
theorem dX7_power_8 : decode cX7_power 8 = .ok (.iload_n 2, 1) := by decide +kernel
theorem dX7_power_9 : decode cX7_power 9 = .ok (.invokestatic 194, 3) := by decide +kernel
theorem dX7_power_12 : decode cX7_power 12 = .ok (.ifCond .eq 5, 3) := by decide +kernel
theorem dX7_power_15 : decode cX7_power 15 = .ok (.iconst (-1), 1) := by decide +kernel
theorem dX7_power_16 : decode cX7_power 16 = .ok (.ireturn, 1) := by decide +kernel
theorem dX7_power_17 : decode cX7_power 17 = .ok (.aload_n 0, 1) := by decide +kernel
theorem dX7_power_18 : decode cX7_power 18 = .ok (.getfield 57, 3) := by decide +kernel
theorem dX7_power_21 : decode cX7_power 21 = .ok (.iload_n 1, 1) := by decide +kernel
theorem dX7_power_22 : decode cX7_power 22 = .ok (.aload_n 0, 1) := by decide +kernel
theorem dX7_power_23 : decode cX7_power 23 = .ok (.getfield 48, 3) := by decide +kernel
theorem dX7_power_26 : decode cX7_power 26 = .ok (.invokevirtual 133, 3) := by decide +kernel
theorem dX7_power_29 : decode cX7_power 29 = .ok (.invokevirtual 197, 3) := by decide +kernel
theorem dX7_power_32 : decode cX7_power 32 = .ok (.aload_n 0, 1) := by decide +kernel
theorem dX7_power_33 : decode cX7_power 33 = .ok (.getfield 57, 3) := by decide +kernel
theorem dX7_power_36 : decode cX7_power 36 = .ok (.invokevirtual 200, 3) := by decide +kernel
theorem dX7_power_39 : decode cX7_power 39 = .ok (.iload_n 2, 1) := by decide +kernel
theorem dX7_power_40 : decode cX7_power 40 = .ok (.invokestatic 203, 3) := by decide +kernel
theorem dX7_power_43 : decode cX7_power 43 = .ok (.ireturn, 1) := by decide +kernel
set_option maxRecDepth 20000 in
theorem ggX7_least_X7_noTerm : GoodIn wsX7_least wsX7_noTerm := goodIn_r _ [5] (by decide +kernel) (by decide +kernel)
set_option maxRecDepth 20000 in
theorem gX7_least_X7_noTerm : GoodIn wsX7_least (va_wsS RX7 194 yX7_noTerm wsX7_noTerm) := goodIn_app (goodIn_of _ (by decide +kernel)) ggX7_least_X7_noTerm
set_option maxRecDepth 20000 in
theorem ggX7_least_X4_leastSets : GoodIn wsX7_least wsX4_leastSets := goodIn_r _ [10, 11, 12, 13, 14, 15, 16, 17, 18, 19, 20, 21, 22, 23, 24, 25, 26, 27, 28, 29, 30, 31, 32, 33, 34, 35, 36, 37, 4, 38, 39, 40, 41, 9, 42, 43, 44, 45, 46, 47, 48, 49, 50, 51, 52, 53, 71, 72, 73, 74, 75, 76, 77, 78, 79, 80, 81, 82, 83, 84, 85, 86, 87] (by decide +kernel) (by decide +kernel)
set_option maxRecDepth 20000 in
theorem gX7_least_X4_leastSets : GoodIn wsX7_least (wsV RX7 207 RX4 yX4_leastSets wsX4_leastSets) := goodIn_app (goodIn_of _ (by decide +kernel)) ggX7_least_X4_leastSets
set_option maxRecDepth 20000 in
theorem ggX7_least_X4_firstLeastSet : GoodIn wsX7_least wsX4_firstLeastSet := goodIn_r _ [57, 11, 12, 13, 14, 15, 16, 17, 18, 19, 20, 21, 22, 23, 24, 25, 26, 27, 28, 29, 30, 31, 32, 33, 34, 35, 36, 37, 4, 38, 39, 40, 41, 9, 42, 43, 44, 45, 46, 47, 48, 49, 50, 51, 52, 53, 71, 72, 73, 74, 75, 76, 77, 78, 79, 80, 81, 82, 83, 84, 85, 86, 87] (by decide +kernel) (by decide +kernel)
set_option maxRecDepth 20000 in
theorem gX7_least_X4_firstLeastSet : GoodIn wsX7_least (wsV RX7 210 RX4 yX4_firstLeastSet wsX4_firstLeastSet) := goodIn_app (goodIn_of _ (by decide +kernel)) ggX7_least_X4_firstLeastSet
theorem dX7_least_0 : decode cX7_least 0 = .ok (.iload_n 1, 1) := by decide +kernel
theorem dX7_least_1 : decode cX7_least 1 = .ok (.invokestatic 194, 3) := by decide +kernel
theorem dX7_least_4 : decode cX7_least 4 = .ok (.ifCond .eq 5, 3) := by decide +kernel
theorem dX7_least_7 : decode cX7_least 7 = .ok (.iconst (-1), 1) := by decide +kernel
theorem dX7_least_8 : decode cX7_least 8 = .ok (.ireturn, 1) := by decide +kernel
theorem dX7_least_9 : decode cX7_least 9 = .ok (.iload_n 1, 1) := by decide +kernel
theorem dX7_least_10 : decode cX7_least 10 = .ok (.ifCond .ne 13, 3) := by decide +kernel
theorem dX7_least_13 : decode cX7_least 13 = .ok (.aload_n 0, 1) := by decide +kernel
theorem dX7_least_14 : decode cX7_least 14 = .ok (.getfield 57, 3) := by decide +kernel
theorem dX7_least_17 : decode cX7_least 17 = .ok (.invokevirtual 207, 3) := by decide +kernel
theorem dX7_least_20 : decode cX7_least 20 = .ok (.goto 10, 3) := by decide +kernel
theorem dX7_least_23 : decode cX7_least 23 = .ok (.aload_n 0, 1) := by decide +kernel
theorem dX7_least_24 : decode cX7_least 24 = .ok (.getfield 57, 3) := by decide +kernel
theorem dX7_least_27 : decode cX7_least 27 = .ok (.invokevirtual 210, 3) := by decide +kernel
theorem dX7_least_30 : decode cX7_least 30 = .ok (.ireturn, 1) := by decide +kernel
set_option maxRecDepth 20000 in
theorem ggX7_dummies_X4_powerless : GoodIn wsX7_dummies wsX4_powerless := goodIn_r _ [6, 7, 8, 9, 10, 11, 12, 13, 14, 15, 16, 17, 18, 19, 20, 21, 22, 23, 24, 25, 26, 27, 28, 29, 30, 31, 32, 33, 34, 35, 36, 37, 38, 5, 39, 40, 41, 42, 43, 44, 45, 46, 47, 48, 49, 50, 51, 52, 53, 54, 55, 56, 57, 58, 59, 60, 61, 75, 76, 77, 78, 79, 80, 81, 82, 83, 84, 85, 86, 87, 88, 89, 90, 91] (by decide +kernel) (by decide +kernel)
set_option maxRecDepth 20000 in
theorem gX7_dummies_X4_powerless : GoodIn wsX7_dummies (wsV RX7 213 RX4 yX4_powerless wsX4_powerless) := goodIn_app (goodIn_of _ (by decide +kernel)) ggX7_dummies_X4_powerless
theorem dX7_dummies_0 : decode cX7_dummies 0 = .ok (.aload_n 0, 1) := by decide +kernel
theorem dX7_dummies_1 : decode cX7_dummies 1 = .ok (.getfield 57, 3) := by decide +kernel
theorem dX7_dummies_4 : decode cX7_dummies 4 = .ok (.invokevirtual 213, 3) := by decide +kernel
theorem dX7_dummies_7 : decode cX7_dummies 7 = .ok (.ireturn, 1) := by decide +kernel
set_option maxRecDepth 20000 in
theorem ggX7_sways_X7_noBill : GoodIn wsX7_sways wsX7_noBill := goodIn_r _ [5] (by decide +kernel) (by decide +kernel)
set_option maxRecDepth 20000 in
theorem gX7_sways_X7_noBill : GoodIn wsX7_sways (va_wsS RX7 149 yX7_noBill wsX7_noBill) := goodIn_app (goodIn_of _ (by decide +kernel)) ggX7_sways_X7_noBill
set_option maxRecDepth 20000 in
theorem ggX7_sways_X6_swayers : GoodIn wsX7_sways wsX6_swayers := goodIn_r _ [10, 11, 12, 13, 14, 15, 9, 16, 17, 18, 19, 20, 21, 22, 23, 24, 25, 26, 27, 28, 29, 30, 31, 32, 33, 34, 35, 4, 36, 37, 38, 39, 40, 41, 42, 43, 44, 45, 46, 47, 48, 49, 50, 51, 65, 66, 67, 68, 69, 70, 71, 72, 73, 74, 75, 76, 77, 78, 79, 80] (by decide +kernel) (by decide +kernel)
set_option maxRecDepth 20000 in
theorem gX7_sways_X6_swayers : GoodIn wsX7_sways (wsV RX7 216 RX6 yX6_swayers wsX6_swayers) := goodIn_app (goodIn_of _ (by decide +kernel)) ggX7_sways_X6_swayers
theorem dX7_sways_0 : decode cX7_sways 0 = .ok (.iload_n 1, 1) := by decide +kernel
theorem dX7_sways_1 : decode cX7_sways 1 = .ok (.invokestatic 149, 3) := by decide +kernel
theorem dX7_sways_4 : decode cX7_sways 4 = .ok (.ifCond .eq 5, 3) := by decide +kernel
theorem dX7_sways_7 : decode cX7_sways 7 = .ok (.iconst (-1), 1) := by decide +kernel
theorem dX7_sways_8 : decode cX7_sways 8 = .ok (.ireturn, 1) := by decide +kernel
theorem dX7_sways_9 : decode cX7_sways 9 = .ok (.aload_n 0, 1) := by decide +kernel
theorem dX7_sways_10 : decode cX7_sways 10 = .ok (.getfield 48, 3) := by decide +kernel
theorem dX7_sways_13 : decode cX7_sways 13 = .ok (.iload_n 1, 1) := by decide +kernel
theorem dX7_sways_14 : decode cX7_sways 14 = .ok (.invokevirtual 216, 3) := by decide +kernel
theorem dX7_sways_17 : decode cX7_sways 17 = .ok (.ireturn, 1) := by decide +kernel
set_option maxRecDepth 20000 in
theorem ggX7_free_X6_voices : GoodIn wsX7_free wsX6_voices := goodIn_r _ [6, 7, 8, 9, 10, 11, 5, 12, 13, 14, 15, 16, 17, 18, 19, 20, 21, 22, 23, 24, 25, 26, 27, 28, 29, 63, 64, 65, 66, 67, 68, 69, 70, 71, 72, 73, 74, 75, 76, 77, 78] (by decide +kernel) (by decide +kernel)
set_option maxRecDepth 20000 in
theorem gX7_free_X6_voices : GoodIn wsX7_free (wsV RX7 133 RX6 yX6_voices wsX6_voices) := goodIn_app (goodIn_of _ (by decide +kernel)) ggX7_free_X6_voices
set_option maxRecDepth 20000 in
theorem ggX7_free_X6_swayers : GoodIn wsX7_free wsX6_swayers := goodIn_r _ [33, 17, 18, 34, 3, 4, 5, 6, 7, 8, 9, 10, 11, 12, 13, 14, 15, 16, 19, 20, 21, 22, 23, 24, 25, 26, 27, 28, 29, 35, 36, 37, 38, 39, 40, 41, 42, 43, 44, 45, 46, 47, 48, 49, 63, 64, 72, 73, 74, 75, 76, 77, 78, 65, 66, 67, 68, 69, 70, 71] (by decide +kernel) (by decide +kernel)
set_option maxRecDepth 20000 in
theorem gX7_free_X6_swayers : GoodIn wsX7_free (wsV RX7 216 RX6 yX6_swayers wsX6_swayers) := goodIn_app (goodIn_of _ (by decide +kernel)) ggX7_free_X6_swayers
theorem dX7_free_0 : decode cX7_free 0 = .ok (.aload_n 0, 1) := by decide +kernel
theorem dX7_free_1 : decode cX7_free 1 = .ok (.getfield 48, 3) := by decide +kernel
theorem dX7_free_4 : decode cX7_free 4 = .ok (.invokevirtual 133, 3) := by decide +kernel
theorem dX7_free_7 : decode cX7_free 7 = .ok (.istore_n 1, 1) := by decide +kernel
theorem dX7_free_8 : decode cX7_free 8 = .ok (.iconst 0, 1) := by decide +kernel
theorem dX7_free_9 : decode cX7_free 9 = .ok (.istore_n 2, 1) := by decide +kernel
theorem dX7_free_10 : decode cX7_free 10 = .ok (.iload_n 2, 1) := by decide +kernel
theorem dX7_free_11 : decode cX7_free 11 = .ok (.iconst 5, 1) := by decide +kernel
theorem dX7_free_12 : decode cX7_free 12 = .ok (.if_icmp .ge 22, 3) := by decide +kernel
theorem dX7_free_15 : decode cX7_free 15 = .ok (.iload_n 1, 1) := by decide +kernel
theorem dX7_free_16 : decode cX7_free 16 = .ok (.aload_n 0, 1) := by decide +kernel
theorem dX7_free_17 : decode cX7_free 17 = .ok (.getfield 48, 3) := by decide +kernel
theorem dX7_free_20 : decode cX7_free 20 = .ok (.iload_n 2, 1) := by decide +kernel
theorem dX7_free_21 : decode cX7_free 21 = .ok (.invokevirtual 216, 3) := by decide +kernel
theorem dX7_free_24 : decode cX7_free 24 = .ok (.iconst (-1), 1) := by decide +kernel
theorem dX7_free_25 : decode cX7_free 25 = .ok (.ixor, 1) := by decide +kernel
theorem dX7_free_26 : decode cX7_free 26 = .ok (.iand, 1) := by decide +kernel
theorem dX7_free_27 : decode cX7_free 27 = .ok (.istore_n 1, 1) := by decide +kernel
theorem dX7_free_28 : decode cX7_free 28 = .ok (.iinc 2 1, 3) := by decide +kernel
theorem dX7_free_31 : decode cX7_free 31 = .ok (.goto (-21), 3) := by decide +kernel
theorem dX7_free_34 : decode cX7_free 34 = .ok (.iload_n 1, 1) := by decide +kernel
theorem dX7_free_35 : decode cX7_free 35 = .ok (.ireturn, 1) := by decide +kernel
set_option maxRecDepth 20000 in
theorem ggX7_turn_X7_noBill : GoodIn wsX7_turn wsX7_noBill := goodIn_r _ [5] (by decide +kernel) (by decide +kernel)
set_option maxRecDepth 20000 in
theorem gX7_turn_X7_noBill : GoodIn wsX7_turn (va_wsS RX7 149 yX7_noBill wsX7_noBill) := goodIn_app (goodIn_of _ (by decide +kernel)) ggX7_turn_X7_noBill
set_option maxRecDepth 20000 in
theorem ggX7_turn_X6_fewestTurned : GoodIn wsX7_turn wsX6_fewestTurned := goodIn_r _ [10, 11, 12, 13, 9, 14, 15, 16, 17, 18, 19, 20, 21, 22, 23, 24, 25, 26, 27, 28, 29, 30, 31, 32, 33, 34, 35, 4, 36, 37, 38, 39, 40, 41, 42, 43, 44, 45, 46, 47, 48, 49, 50, 51, 52, 53, 54, 55, 56, 57, 58, 59, 60, 61, 62, 63, 77, 78, 79, 80, 81, 82, 83, 84, 85, 86, 87, 88, 89, 90, 91, 92] (by decide +kernel) (by decide +kernel)
set_option maxRecDepth 20000 in
theorem gX7_turn_X6_fewestTurned : GoodIn wsX7_turn (wsV RX7 219 RX6 yX6_fewestTurned wsX6_fewestTurned) := goodIn_app (goodIn_of _ (by decide +kernel)) ggX7_turn_X6_fewestTurned
theorem dX7_turn_0 : decode cX7_turn 0 = .ok (.iload_n 1, 1) := by decide +kernel
theorem dX7_turn_1 : decode cX7_turn 1 = .ok (.invokestatic 149, 3) := by decide +kernel
theorem dX7_turn_4 : decode cX7_turn 4 = .ok (.ifCond .eq 5, 3) := by decide +kernel
theorem dX7_turn_7 : decode cX7_turn 7 = .ok (.iconst (-1), 1) := by decide +kernel
theorem dX7_turn_8 : decode cX7_turn 8 = .ok (.ireturn, 1) := by decide +kernel
theorem dX7_turn_9 : decode cX7_turn 9 = .ok (.aload_n 0, 1) := by decide +kernel
theorem dX7_turn_10 : decode cX7_turn 10 = .ok (.getfield 48, 3) := by decide +kernel
theorem dX7_turn_13 : decode cX7_turn 13 = .ok (.iload_n 1, 1) := by decide +kernel
theorem dX7_turn_14 : decode cX7_turn 14 = .ok (.invokevirtual 219, 3) := by decide +kernel
theorem dX7_turn_17 : decode cX7_turn 17 = .ok (.ireturn, 1) := by decide +kernel
set_option maxRecDepth 20000 in
theorem ggX7_hand_X7_noBill : GoodIn wsX7_hand wsX7_noBill := goodIn_r _ [5] (by decide +kernel) (by decide +kernel)
set_option maxRecDepth 20000 in
theorem gX7_hand_X7_noBill : GoodIn wsX7_hand (va_wsS RX7 149 yX7_noBill wsX7_noBill) := goodIn_app (goodIn_of _ (by decide +kernel)) ggX7_hand_X7_noBill
set_option maxRecDepth 20000 in
theorem ggX7_hand_X6_fewestHanded : GoodIn wsX7_hand wsX6_fewestHanded := goodIn_r _ [10, 11, 12, 13, 14, 15, 9, 16, 17, 18, 19, 20, 21, 22, 23, 24, 25, 26, 27, 28, 29, 30, 31, 32, 33, 34, 35, 4, 36, 37, 38, 39, 40, 41, 42, 43, 44, 45, 46, 47, 48, 49, 50, 51, 52, 53, 54, 55, 56, 57, 58, 59, 60, 61, 62, 63, 64, 65, 66, 67, 68, 82, 83, 84, 85, 86, 87, 88, 89, 90, 91, 92, 93, 94, 95, 96, 97] (by decide +kernel) (by decide +kernel)
set_option maxRecDepth 20000 in
theorem gX7_hand_X6_fewestHanded : GoodIn wsX7_hand (wsV RX7 222 RX6 yX6_fewestHanded wsX6_fewestHanded) := goodIn_app (goodIn_of _ (by decide +kernel)) ggX7_hand_X6_fewestHanded
theorem dX7_hand_0 : decode cX7_hand 0 = .ok (.iload_n 1, 1) := by decide +kernel
theorem dX7_hand_1 : decode cX7_hand 1 = .ok (.invokestatic 149, 3) := by decide +kernel
theorem dX7_hand_4 : decode cX7_hand 4 = .ok (.ifCond .eq 5, 3) := by decide +kernel
theorem dX7_hand_7 : decode cX7_hand 7 = .ok (.iconst (-1), 1) := by decide +kernel
theorem dX7_hand_8 : decode cX7_hand 8 = .ok (.ireturn, 1) := by decide +kernel
theorem dX7_hand_9 : decode cX7_hand 9 = .ok (.aload_n 0, 1) := by decide +kernel
theorem dX7_hand_10 : decode cX7_hand 10 = .ok (.getfield 48, 3) := by decide +kernel
theorem dX7_hand_13 : decode cX7_hand 13 = .ok (.iload_n 1, 1) := by decide +kernel
theorem dX7_hand_14 : decode cX7_hand 14 = .ok (.invokevirtual 222, 3) := by decide +kernel
theorem dX7_hand_17 : decode cX7_hand 17 = .ok (.ireturn, 1) := by decide +kernel
set_option maxRecDepth 20000 in
theorem ggX7_swaps_X7_noBill : GoodIn wsX7_swaps wsX7_noBill := goodIn_r _ [5] (by decide +kernel) (by decide +kernel)
set_option maxRecDepth 20000 in
theorem gX7_swaps_X7_noBill : GoodIn wsX7_swaps (va_wsS RX7 149 yX7_noBill wsX7_noBill) := goodIn_app (goodIn_of _ (by decide +kernel)) ggX7_swaps_X7_noBill
set_option maxRecDepth 20000 in
theorem ggX7_swaps_X6_changingSwaps : GoodIn wsX7_swaps wsX6_changingSwaps := goodIn_r _ [10, 11, 12, 13, 14, 15, 16, 17, 18, 9, 19, 20, 21, 22, 23, 24, 25, 26, 27, 4, 28, 29, 30, 31, 32, 33, 34, 35, 36, 37, 38, 39, 40, 41, 42, 43, 44, 45, 46, 60, 61, 62, 63, 64, 65, 66, 67, 68, 69, 70, 71, 72, 73, 74, 75] (by decide +kernel) (by decide +kernel)
set_option maxRecDepth 20000 in
theorem gX7_swaps_X6_changingSwaps : GoodIn wsX7_swaps (wsV RX7 225 RX6 yX6_changingSwaps wsX6_changingSwaps) := goodIn_app (goodIn_of _ (by decide +kernel)) ggX7_swaps_X6_changingSwaps
theorem dX7_swaps_0 : decode cX7_swaps 0 = .ok (.iload_n 1, 1) := by decide +kernel
theorem dX7_swaps_1 : decode cX7_swaps 1 = .ok (.invokestatic 149, 3) := by decide +kernel
theorem dX7_swaps_4 : decode cX7_swaps 4 = .ok (.ifCond .eq 5, 3) := by decide +kernel
theorem dX7_swaps_7 : decode cX7_swaps 7 = .ok (.iconst (-1), 1) := by decide +kernel
theorem dX7_swaps_8 : decode cX7_swaps 8 = .ok (.ireturn, 1) := by decide +kernel
theorem dX7_swaps_9 : decode cX7_swaps 9 = .ok (.aload_n 0, 1) := by decide +kernel
theorem dX7_swaps_10 : decode cX7_swaps 10 = .ok (.getfield 48, 3) := by decide +kernel
theorem dX7_swaps_13 : decode cX7_swaps 13 = .ok (.iload_n 1, 1) := by decide +kernel
theorem dX7_swaps_14 : decode cX7_swaps 14 = .ok (.invokevirtual 225, 3) := by decide +kernel
theorem dX7_swaps_17 : decode cX7_swaps 17 = .ok (.ireturn, 1) := by decide +kernel
set_option maxRecDepth 20000 in
theorem ggX7_record_X7_noBill : GoodIn wsX7_record wsX7_noBill := goodIn_r _ [6] (by decide +kernel) (by decide +kernel)
set_option maxRecDepth 20000 in
theorem gX7_record_X7_noBill : GoodIn wsX7_record (va_wsS RX7 149 yX7_noBill wsX7_noBill) := goodIn_app (goodIn_of _ (by decide +kernel)) ggX7_record_X7_noBill
set_option maxRecDepth 20000 in
theorem ggX7_record_X1_write : GoodIn wsX7_record wsX1_write := goodIn_r _ [11, 12, 13, 14, 28, 29, 30, 31] (by decide +kernel) (by decide +kernel)
set_option maxRecDepth 20000 in
theorem gX7_record_X1_write : GoodIn wsX7_record (wsV RX7 231 RX1 yX1_write wsX1_write) := goodIn_app (goodIn_of _ (by decide +kernel)) ggX7_record_X1_write
theorem dX7_record_0 : decode cX7_record 0 = .ok (.iload_n 1, 1) := by decide +kernel
theorem dX7_record_1 : decode cX7_record 1 = .ok (.invokestatic 149, 3) := by decide +kernel
theorem dX7_record_4 : decode cX7_record 4 = .ok (.ifCond .ne 12, 3) := by decide +kernel
theorem dX7_record_7 : decode cX7_record 7 = .ok (.iload_n 2, 1) := by decide +kernel
theorem dX7_record_8 : decode cX7_record 8 = .ok (.ifCond .lt 8, 3) := by decide +kernel
theorem dX7_record_11 : decode cX7_record 11 = .ok (.iload_n 2, 1) := by decide +kernel
theorem dX7_record_12 : decode cX7_record 12 = .ok (.iconst 1, 1) := by decide +kernel
theorem dX7_record_13 : decode cX7_record 13 = .ok (.if_icmp .le 5, 3) := by decide +kernel
theorem dX7_record_16 : decode cX7_record 16 = .ok (.iconst (-1), 1) := by decide +kernel
theorem dX7_record_17 : decode cX7_record 17 = .ok (.ireturn, 1) := by decide +kernel
theorem dX7_record_18 : decode cX7_record 18 = .ok (.aload_n 0, 1) := by decide +kernel
theorem dX7_record_19 : decode cX7_record 19 = .ok (.getfield 64, 3) := by decide +kernel
theorem dX7_record_22 : decode cX7_record 22 = .ok (.getfield 228, 3) := by decide +kernel
theorem dX7_record_25 : decode cX7_record 25 = .ok (.bipush 6, 2) := by decide +kernel
theorem dX7_record_27 : decode cX7_record 27 = .ok (.if_icmp .lt 6, 3) := by decide +kernel
theorem dX7_record_30 : decode cX7_record 30 = .ok (.bipush (-3), 2) := by decide +kernel
theorem dX7_record_32 : decode cX7_record 32 = .ok (.ireturn, 1) := by decide +kernel
theorem dX7_record_33 : decode cX7_record 33 = .ok (.aload_n 0, 1) := by decide +kernel
theorem dX7_record_34 : decode cX7_record 34 = .ok (.getfield 64, 3) := by decide +kernel
theorem dX7_record_37 : decode cX7_record 37 = .ok (.iload_n 1, 1) := by decide +kernel
theorem dX7_record_38 : decode cX7_record 38 = .ok (.iload_n 2, 1) := by decide +kernel
theorem dX7_record_39 : decode cX7_record 39 = .ok (.iconst 1, 1) := by decide +kernel
theorem dX7_record_40 : decode cX7_record 40 = .ok (.if_icmp .ne 7, 3) := by decide +kernel
theorem dX7_record_43 : decode cX7_record 43 = .ok (.iconst 1, 1) := by decide +kernel
theorem dX7_record_44 : decode cX7_record 44 = .ok (.goto 4, 3) := by decide +kernel
theorem dX7_record_47 : decode cX7_record 47 = .ok (.iconst 0, 1) := by decide +kernel
theorem dX7_record_48 : decode cX7_record 48 = .ok (.invokevirtual 231, 3) := by decide +kernel
theorem dX7_record_51 : decode cX7_record 51 = .ok (.aload_n 0, 1) := by decide +kernel
theorem dX7_record_52 : decode cX7_record 52 = .ok (.getfield 64, 3) := by decide +kernel
theorem dX7_record_55 : decode cX7_record 55 = .ok (.getfield 228, 3) := by decide +kernel
theorem dX7_record_58 : decode cX7_record 58 = .ok (.ireturn, 1) := by decide +kernel
set_option maxRecDepth 20000 in
theorem ggX7_forget_X1_tearUp : GoodIn wsX7_forget wsX1_tearUp := goodIn_r _ [7, 8, 22, 23, 24, 25] (by decide +kernel) (by decide +kernel)
set_option maxRecDepth 20000 in
theorem gX7_forget_X1_tearUp : GoodIn wsX7_forget (wsV RX7 97 RX1 yX1_tearUp wsX1_tearUp) := goodIn_app (goodIn_of _ (by decide +kernel)) ggX7_forget_X1_tearUp
theorem dX7_forget_0 : decode cX7_forget 0 = .ok (.aload_n 0, 1) := by decide +kernel
theorem dX7_forget_1 : decode cX7_forget 1 = .ok (.getfield 64, 3) := by decide +kernel
theorem dX7_forget_4 : decode cX7_forget 4 = .ok (.getfield 228, 3) := by decide +kernel
theorem dX7_forget_7 : decode cX7_forget 7 = .ok (.istore_n 1, 1) := by decide +kernel
theorem dX7_forget_8 : decode cX7_forget 8 = .ok (.aload_n 0, 1) := by decide +kernel
theorem dX7_forget_9 : decode cX7_forget 9 = .ok (.getfield 64, 3) := by decide +kernel
theorem dX7_forget_12 : decode cX7_forget 12 = .ok (.invokevirtual 97, 3) := by decide +kernel
theorem dX7_forget_15 : decode cX7_forget 15 = .ok (.iload_n 1, 1) := by decide +kernel
theorem dX7_forget_16 : decode cX7_forget 16 = .ok (.ireturn, 1) := by decide +kernel
set_option maxRecDepth 20000 in
theorem ggX7_isFor_X7_noThing : GoodIn wsX7_isFor wsX7_noThing := goodIn_r _ [6, 7, 8, 75, 76, 77, 78, 79, 80, 81, 82, 83, 84, 85, 86, 87, 88, 89, 90, 91, 92, 93, 94] (by decide +kernel) (by decide +kernel)
set_option maxRecDepth 20000 in
theorem gX7_isFor_X7_noThing : GoodIn wsX7_isFor (wsV RX7 103 RX7 yX7_noThing wsX7_noThing) := goodIn_app (goodIn_of _ (by decide +kernel)) ggX7_isFor_X7_noThing
set_option maxRecDepth 20000 in
theorem ggX7_isFor_X7_noTerm : GoodIn wsX7_isFor wsX7_noTerm := goodIn_r _ [11] (by decide +kernel) (by decide +kernel)
set_option maxRecDepth 20000 in
theorem gX7_isFor_X7_noTerm : GoodIn wsX7_isFor (va_wsS RX7 194 yX7_noTerm wsX7_noTerm) := goodIn_app (goodIn_of _ (by decide +kernel)) ggX7_isFor_X7_noTerm
set_option maxRecDepth 20000 in
theorem ggX7_isFor_X1_possibleSets : GoodIn wsX7_isFor wsX1_possibleSets := goodIn_r _ [16, 17, 18, 19, 20, 21, 22, 23, 24, 25, 26, 27, 28, 29, 30, 31, 32, 33, 34, 35, 36, 37, 38, 39, 40, 41, 42, 43, 5, 44, 45, 46, 47, 15, 48, 49, 50, 51, 52, 53, 54, 55, 56, 57, 58, 59, 60, 61, 62, 63, 64, 65, 66, 67, 68, 69, 70, 95, 96, 97, 98, 99, 100, 101, 102, 103, 104, 105, 106, 107, 88, 89, 90, 91, 92, 93, 94] (by decide +kernel) (by decide +kernel)
set_option maxRecDepth 20000 in
theorem gX7_isFor_X1_possibleSets : GoodIn wsX7_isFor (wsV RX7 235 RX1 yX1_possibleSets wsX1_possibleSets) := goodIn_app (goodIn_of _ (by decide +kernel)) ggX7_isFor_X1_possibleSets
set_option maxRecDepth 20000 in
theorem ggX7_isFor_X1_leastPossibleSet : GoodIn wsX7_isFor wsX1_leastPossibleSet := goodIn_r _ [74, 17, 18, 19, 20, 21, 22, 23, 24, 25, 26, 27, 28, 29, 30, 31, 32, 33, 34, 35, 36, 37, 38, 39, 40, 41, 42, 43, 5, 44, 45, 46, 47, 15, 48, 49, 50, 51, 52, 53, 54, 55, 56, 57, 58, 59, 60, 61, 62, 63, 64, 65, 66, 67, 68, 69, 70, 95, 96, 97, 98, 99, 100, 101, 102, 103, 104, 105, 106, 107, 88, 89, 90, 91, 92, 93, 94] (by decide +kernel) (by decide +kernel)
set_option maxRecDepth 20000 in
theorem gX7_isFor_X1_leastPossibleSet : GoodIn wsX7_isFor (wsV RX7 238 RX1 yX1_leastPossibleSet wsX1_leastPossibleSet) := goodIn_app (goodIn_of _ (by decide +kernel)) ggX7_isFor_X1_leastPossibleSet
theorem dX7_isFor_0 : decode cX7_isFor 0 = .ok (.aload_n 0, 1) := by decide +kernel
theorem dX7_isFor_1 : decode cX7_isFor 1 = .ok (.iload_n 1, 1) := by decide +kernel
theorem dX7_isFor_2 : decode cX7_isFor 2 = .ok (.invokevirtual 103, 3) := by decide +kernel
theorem dX7_isFor_5 : decode cX7_isFor 5 = .ok (.ifCond .ne 10, 3) := by decide +kernel
theorem dX7_isFor_8 : decode cX7_isFor 8 = .ok (.iload_n 2, 1) := by decide +kernel
theorem dX7_isFor_9 : decode cX7_isFor 9 = .ok (.invokestatic 194, 3) := by decide +kernel
theorem dX7_isFor_12 : decode cX7_isFor 12 = .ok (.ifCond .eq 5, 3) := by decide +kernel
theorem dX7_isFor_15 : decode cX7_isFor 15 = .ok (.iconst (-1), 1) := by decide +kernel
theorem dX7_isFor_16 : decode cX7_isFor 16 = .ok (.ireturn, 1) := by decide +kernel
theorem dX7_isFor_17 : decode cX7_isFor 17 = .ok (.iload_n 2, 1) := by decide +kernel
theorem dX7_isFor_18 : decode cX7_isFor 18 = .ok (.ifCond .ne 14, 3) := by decide +kernel
theorem dX7_isFor_21 : decode cX7_isFor 21 = .ok (.aload_n 0, 1) := by decide +kernel
theorem dX7_isFor_22 : decode cX7_isFor 22 = .ok (.getfield 64, 3) := by decide +kernel
theorem dX7_isFor_25 : decode cX7_isFor 25 = .ok (.iload_n 1, 1) := by decide +kernel
theorem dX7_isFor_26 : decode cX7_isFor 26 = .ok (.invokevirtual 235, 3) := by decide +kernel
theorem dX7_isFor_29 : decode cX7_isFor 29 = .ok (.goto 11, 3) := by decide +kernel
theorem dX7_isFor_32 : decode cX7_isFor 32 = .ok (.aload_n 0, 1) := by decide +kernel
theorem dX7_isFor_33 : decode cX7_isFor 33 = .ok (.getfield 64, 3) := by decide +kernel
theorem dX7_isFor_36 : decode cX7_isFor 36 = .ok (.iload_n 1, 1) := by decide +kernel
theorem dX7_isFor_37 : decode cX7_isFor 37 = .ok (.invokevirtual 238, 3) := by decide +kernel
theorem dX7_isFor_40 : decode cX7_isFor 40 = .ok (.ireturn, 1) := by decide +kernel
set_option maxRecDepth 20000 in
theorem ggX7_who_X1_possiblySick : GoodIn wsX7_who wsX1_possiblySick := goodIn_r _ [6, 7, 8, 9, 10, 11, 12, 5, 13, 14, 15, 16, 17, 18, 19, 20, 21, 22, 23, 24, 25, 26, 27, 28, 29, 30, 31, 32, 33, 34, 35, 36, 37, 38, 39, 40, 41, 42, 43, 44, 45, 46, 47, 48, 49, 50, 51, 52, 53, 54, 68, 69, 70, 71, 72, 73, 74, 75, 76, 77, 78, 79, 80, 81, 82, 83, 84, 85, 86, 87] (by decide +kernel) (by decide +kernel)
set_option maxRecDepth 20000 in
theorem gX7_who_X1_possiblySick : GoodIn wsX7_who (wsV RX7 241 RX1 yX1_possiblySick wsX1_possiblySick) := goodIn_app (goodIn_of _ (by decide +kernel)) ggX7_who_X1_possiblySick
theorem dX7_who_0 : decode cX7_who 0 = .ok (.aload_n 0, 1) := by decide +kernel
theorem dX7_who_1 : decode cX7_who 1 = .ok (.getfield 64, 3) := by decide +kernel
theorem dX7_who_4 : decode cX7_who 4 = .ok (.invokevirtual 241, 3) := by decide +kernel
theorem dX7_who_7 : decode cX7_who 7 = .ok (.ireturn, 1) := by decide +kernel
set_option maxRecDepth 20000 in
theorem ggX7_odds_X7_noBill : GoodIn wsX7_odds wsX7_noBill := goodIn_r _ [5] (by decide +kernel) (by decide +kernel)
set_option maxRecDepth 20000 in
theorem gX7_odds_X7_noBill : GoodIn wsX7_odds (va_wsS RX7 149 yX7_noBill wsX7_noBill) := goodIn_app (goodIn_of _ (by decide +kernel)) ggX7_odds_X7_noBill
set_option maxRecDepth 20000 in
theorem ggX7_odds_X7_noTerm : GoodIn wsX7_odds wsX7_noTerm := goodIn_r _ [8] (by decide +kernel) (by decide +kernel)
set_option maxRecDepth 20000 in
theorem gX7_odds_X7_noTerm : GoodIn wsX7_odds (va_wsS RX7 194 yX7_noTerm wsX7_noTerm) := goodIn_app (goodIn_of _ (by decide +kernel)) ggX7_odds_X7_noTerm
set_option maxRecDepth 20000 in
theorem ggX7_odds_X6_chancesToPass : GoodIn wsX7_odds wsX6_chancesToPass := goodIn_r _ [13, 14, 15, 16, 17, 18, 12, 19, 20, 21, 22, 23, 24, 4, 25, 26, 27, 28, 29, 30, 31, 32, 33, 34, 35, 36, 37, 38, 39, 40, 41, 42, 43, 44, 45, 46, 47, 48, 49, 50, 51, 52, 53, 54, 78, 79, 80, 81, 82, 83, 84, 85, 86, 87, 88, 89, 90, 91, 92, 93] (by decide +kernel) (by decide +kernel)
set_option maxRecDepth 20000 in
theorem gX7_odds_X6_chancesToPass : GoodIn wsX7_odds (wsV RX7 244 RX6 yX6_chancesToPass wsX6_chancesToPass) := goodIn_app (goodIn_of _ (by decide +kernel)) ggX7_odds_X6_chancesToPass
set_option maxRecDepth 20000 in
theorem ggX7_odds_X6_chances : GoodIn wsX7_odds wsX6_chances := goodIn_r _ [58, 14, 15, 78, 79, 80, 81, 82, 83, 84, 85, 86] (by decide +kernel) (by decide +kernel)
set_option maxRecDepth 20000 in
theorem gX7_odds_X6_chances : GoodIn wsX7_odds (wsV RX7 247 RX6 yX6_chances wsX6_chances) := goodIn_app (goodIn_of _ (by decide +kernel)) ggX7_odds_X6_chances
set_option maxRecDepth 20000 in
theorem ggX7_odds_X7_term : GoodIn wsX7_odds wsX7_term := goodIn_r _ [61, 62, 63, 4, 64] (by decide +kernel) (by decide +kernel)
set_option maxRecDepth 20000 in
theorem gX7_odds_X7_term : GoodIn wsX7_odds (va_wsS RX7 203 yX7_term wsX7_term) := goodIn_app (goodIn_of _ (by decide +kernel)) ggX7_odds_X7_term
theorem dX7_odds_0 : decode cX7_odds 0 = .ok (.iload_n 1, 1) := by decide +kernel
theorem dX7_odds_1 : decode cX7_odds 1 = .ok (.invokestatic 149, 3) := by decide +kernel
theorem dX7_odds_4 : decode cX7_odds 4 = .ok (.ifCond .ne 20, 3) := by decide +kernel
theorem dX7_odds_7 : decode cX7_odds 7 = .ok (.iload_n 2, 1) := by decide +kernel
theorem dX7_odds_8 : decode cX7_odds 8 = .ok (.ifCond .lt 16, 3) := by decide +kernel
theorem dX7_odds_11 : decode cX7_odds 11 = .ok (.iload_n 2, 1) := by decide +kernel
theorem dX7_odds_12 : decode cX7_odds 12 = .ok (.bipush 10, 2) := by decide +kernel
theorem dX7_odds_14 : decode cX7_odds 14 = .ok (.if_icmp .gt 10, 3) := by decide +kernel
theorem dX7_odds_17 : decode cX7_odds 17 = .ok (.iload_n 3, 1) := by decide +kernel
theorem dX7_odds_18 : decode cX7_odds 18 = .ok (.invokestatic 194, 3) := by decide +kernel
theorem dX7_odds_21 : decode cX7_odds 21 = .ok (.ifCond .eq 5, 3) := by decide +kernel
theorem dX7_odds_24 : decode cX7_odds 24 = .ok (.iconst (-1), 1) := by decide +kernel
theorem dX7_odds_25 : decode cX7_odds 25 = .ok (.ireturn, 1) := by decide +kernel
theorem dX7_odds_26 : decode cX7_odds 26 = .ok (.aload_n 0, 1) := by decide +kernel
theorem dX7_odds_27 : decode cX7_odds 27 = .ok (.getfield 48, 3) := by decide +kernel
theorem dX7_odds_30 : decode cX7_odds 30 = .ok (.iload_n 1, 1) := by decide +kernel
theorem dX7_odds_31 : decode cX7_odds 31 = .ok (.iload_n 2, 1) := by decide +kernel
theorem dX7_odds_32 : decode cX7_odds 32 = .ok (.invokevirtual 244, 3) := by decide +kernel
theorem dX7_odds_35 : decode cX7_odds 35 = .ok (.aload_n 0, 1) := by decide +kernel
theorem dX7_odds_36 : decode cX7_odds 36 = .ok (.getfield 48, 3) := by decide +kernel
theorem dX7_odds_39 : decode cX7_odds 39 = .ok (.invokevirtual 247, 3) := by decide +kernel
theorem dX7_odds_42 : decode cX7_odds 42 = .ok (.iload_n 3, 1) := by decide +kernel
theorem dX7_odds_43 : decode cX7_odds 43 = .ok (.invokestatic 203, 3) := by decide +kernel
theorem dX7_odds_46 : decode cX7_odds 46 = .ok (.ireturn, 1) := by decide +kernel
set_option maxRecDepth 20000 in
theorem ggX7_rate_X7_noThing : GoodIn wsX7_rate wsX7_noThing := goodIn_r _ [6, 7, 8, 51, 52, 53, 54, 55, 56, 57, 58, 59, 60, 61, 62, 63, 64, 65, 66, 67, 68, 69, 70] (by decide +kernel) (by decide +kernel)
set_option maxRecDepth 20000 in
theorem gX7_rate_X7_noThing : GoodIn wsX7_rate (wsV RX7 103 RX7 yX7_noThing wsX7_noThing) := goodIn_app (goodIn_of _ (by decide +kernel)) ggX7_rate_X7_noThing
set_option maxRecDepth 20000 in
theorem ggX7_rate_X7_asThing : GoodIn wsX7_rate wsX7_asThing := goodIn_r _ [12, 13, 7, 14, 51, 52, 53, 54, 55, 56, 57, 58, 59, 60, 61, 62, 63, 64, 65, 66, 67, 68, 69, 70] (by decide +kernel) (by decide +kernel)
set_option maxRecDepth 20000 in
theorem gX7_rate_X7_asThing : GoodIn wsX7_rate (wsV RX7 251 RX7 yX7_asThing wsX7_asThing) := goodIn_app (goodIn_of _ (by decide +kernel)) ggX7_rate_X7_asThing
set_option maxRecDepth 20000 in
theorem ggX7_rate_X7_asSceptre : GoodIn wsX7_rate wsX7_asSceptre := goodIn_r _ [18, 13, 19, 7, 20, 9, 10, 11, 5, 12, 14, 21, 22, 23, 24, 25, 26, 27, 51, 52, 53, 54, 55, 56, 57, 58, 59, 60, 61, 62, 63, 64, 65, 66, 67, 68, 69, 70] (by decide +kernel) (by decide +kernel)
set_option maxRecDepth 20000 in
theorem gX7_rate_X7_asSceptre : GoodIn wsX7_rate (wsV RX7 254 RX7 yX7_asSceptre wsX7_asSceptre) := goodIn_app (goodIn_of _ (by decide +kernel)) ggX7_rate_X7_asSceptre
set_option maxRecDepth 20000 in
theorem ggX7_rate_X7_asOrb : GoodIn wsX7_rate wsX7_asOrb := goodIn_r _ [31, 13, 32, 33, 34, 9, 10, 11, 5, 12, 7, 14, 51, 52, 53, 54, 55, 56, 57, 58, 59, 60, 61, 62, 63, 71, 72, 73, 74, 75, 76, 77, 64, 65, 66, 67, 68, 69, 70] (by decide +kernel) (by decide +kernel)
set_option maxRecDepth 20000 in
theorem gX7_rate_X7_asOrb : GoodIn wsX7_rate (wsV RX7 257 RX7 yX7_asOrb wsX7_asOrb) := goodIn_app (goodIn_of _ (by decide +kernel)) ggX7_rate_X7_asOrb
set_option maxRecDepth 20000 in
theorem ggX7_rate_X7_asRing : GoodIn wsX7_rate wsX7_asRing := goodIn_r _ [38, 13, 39, 15, 16, 17, 5, 18, 19, 7, 20, 9, 10, 11, 12, 14, 21, 22, 23, 24, 25, 26, 27, 51, 52, 53, 54, 55, 56, 57, 58, 59, 60, 61, 62, 63, 64, 65, 66, 67, 68, 69, 70] (by decide +kernel) (by decide +kernel)
set_option maxRecDepth 20000 in
theorem gX7_rate_X7_asRing : GoodIn wsX7_rate (wsV RX7 260 RX7 yX7_asRing wsX7_asRing) := goodIn_app (goodIn_of _ (by decide +kernel)) ggX7_rate_X7_asRing
set_option maxRecDepth 20000 in
theorem ggX7_rate_X7_asSeal : GoodIn wsX7_rate wsX7_asSeal := goodIn_r _ [43, 13, 44, 28, 29, 30, 5, 31, 32, 33, 34, 9, 10, 11, 12, 7, 14, 51, 52, 53, 54, 55, 56, 57, 58, 59, 60, 61, 62, 63, 71, 72, 73, 74, 75, 76, 77, 64, 65, 66, 67, 68, 69, 70] (by decide +kernel) (by decide +kernel)
set_option maxRecDepth 20000 in
theorem gX7_rate_X7_asSeal : GoodIn wsX7_rate (wsV RX7 263 RX7 yX7_asSeal wsX7_asSeal) := goodIn_app (goodIn_of _ (by decide +kernel)) ggX7_rate_X7_asSeal
set_option maxRecDepth 20000 in
theorem ggX7_rate_X7_asSpoon : GoodIn wsX7_rate wsX7_asSpoon := goodIn_r _ [48, 13, 49, 33, 50, 9, 10, 11, 5, 12, 7, 14, 51, 52, 53, 54, 55, 56, 57, 58, 59, 60, 61, 62, 63, 71, 72, 73, 74, 75, 76, 77, 64, 65, 66, 67, 68, 69, 70] (by decide +kernel) (by decide +kernel)
set_option maxRecDepth 20000 in
theorem gX7_rate_X7_asSpoon : GoodIn wsX7_rate (wsV RX7 266 RX7 yX7_asSpoon wsX7_asSpoon) := goodIn_app (goodIn_of _ (by decide +kernel)) ggX7_rate_X7_asSpoon
theorem dX7_rate_0 : decode cX7_rate 0 = .ok (.aload_n 0, 1) := by decide +kernel
theorem dX7_rate_1 : decode cX7_rate 1 = .ok (.iload_n 2, 1) := by decide +kernel
theorem dX7_rate_2 : decode cX7_rate 2 = .ok (.invokevirtual 103, 3) := by decide +kernel
theorem dX7_rate_5 : decode cX7_rate 5 = .ok (.ifCond .eq 6, 3) := by decide +kernel
theorem dX7_rate_8 : decode cX7_rate 8 = .ok (.ldc 250, 2) := by decide +kernel
theorem dX7_rate_10 : decode cX7_rate 10 = .ok (.ireturn, 1) := by decide +kernel
theorem dX7_rate_11 : decode cX7_rate 11 = .ok (.iload_n 1, 1) := by decide +kernel
theorem dX7_rate_12 : decode cX7_rate 12 = .ok (.tableswitch 76 0 5 #[40, 46, 52, 58, 64, 70], 40) := by decide +kernel
theorem dX7_rate_52 : decode cX7_rate 52 = .ok (.aload_n 0, 1) := by decide +kernel
theorem dX7_rate_53 : decode cX7_rate 53 = .ok (.iload_n 2, 1) := by decide +kernel
theorem dX7_rate_54 : decode cX7_rate 54 = .ok (.invokevirtual 251, 3) := by decide +kernel
theorem dX7_rate_57 : decode cX7_rate 57 = .ok (.ireturn, 1) := by decide +kernel
theorem dX7_rate_58 : decode cX7_rate 58 = .ok (.aload_n 0, 1) := by decide +kernel
theorem dX7_rate_59 : decode cX7_rate 59 = .ok (.iload_n 2, 1) := by decide +kernel
theorem dX7_rate_60 : decode cX7_rate 60 = .ok (.invokevirtual 254, 3) := by decide +kernel
theorem dX7_rate_63 : decode cX7_rate 63 = .ok (.ireturn, 1) := by decide +kernel
theorem dX7_rate_64 : decode cX7_rate 64 = .ok (.aload_n 0, 1) := by decide +kernel
theorem dX7_rate_65 : decode cX7_rate 65 = .ok (.iload_n 2, 1) := by decide +kernel
theorem dX7_rate_66 : decode cX7_rate 66 = .ok (.invokevirtual 257, 3) := by decide +kernel
theorem dX7_rate_69 : decode cX7_rate 69 = .ok (.ireturn, 1) := by decide +kernel
theorem dX7_rate_70 : decode cX7_rate 70 = .ok (.aload_n 0, 1) := by decide +kernel
theorem dX7_rate_71 : decode cX7_rate 71 = .ok (.iload_n 2, 1) := by decide +kernel
theorem dX7_rate_72 : decode cX7_rate 72 = .ok (.invokevirtual 260, 3) := by decide +kernel
theorem dX7_rate_75 : decode cX7_rate 75 = .ok (.ireturn, 1) := by decide +kernel
theorem dX7_rate_76 : decode cX7_rate 76 = .ok (.aload_n 0, 1) := by decide +kernel
theorem dX7_rate_77 : decode cX7_rate 77 = .ok (.iload_n 2, 1) := by decide +kernel
theorem dX7_rate_78 : decode cX7_rate 78 = .ok (.invokevirtual 263, 3) := by decide +kernel
theorem dX7_rate_81 : decode cX7_rate 81 = .ok (.ireturn, 1) := by decide +kernel
theorem dX7_rate_82 : decode cX7_rate 82 = .ok (.aload_n 0, 1) := by decide +kernel
theorem dX7_rate_83 : decode cX7_rate 83 = .ok (.iload_n 2, 1) := by decide +kernel
theorem dX7_rate_84 : decode cX7_rate 84 = .ok (.invokevirtual 266, 3) := by decide +kernel
theorem dX7_rate_87 : decode cX7_rate 87 = .ok (.ireturn, 1) := by decide +kernel
theorem dX7_rate_88 : decode cX7_rate 88 = .ok (.ldc 250, 2) := by decide +kernel
theorem dX7_rate_90 : decode cX7_rate 90 = .ok (.ireturn, 1) := by decide +kernel
set_option maxRecDepth 20000 in
theorem ggX7_keep_X7_noImage : GoodIn wsX7_keep wsX7_noImage := goodIn_r _ [8] (by decide +kernel) (by decide +kernel)
set_option maxRecDepth 20000 in
theorem gX7_keep_X7_noImage : GoodIn wsX7_keep (va_wsS RX7 269 yX7_noImage wsX7_noImage) := goodIn_app (goodIn_of _ (by decide +kernel)) ggX7_keep_X7_noImage
set_option maxRecDepth 20000 in
theorem ggX7_keep_X2_copyFrom : GoodIn wsX7_keep wsX2_copyFrom := goodIn_r _ [13, 14, 15, 16, 17, 18, 19, 20, 21, 22, 23, 24, 38, 39, 40, 41, 42, 43, 44] (by decide +kernel) (by decide +kernel)
set_option maxRecDepth 20000 in
theorem gX7_keep_X2_copyFrom : GoodIn wsX7_keep (wsV RX7 272 RX2 yX2_copyFrom wsX2_copyFrom) := goodIn_app (goodIn_of _ (by decide +kernel)) ggX7_keep_X2_copyFrom
theorem dX7_keep_0 : decode cX7_keep 0 = .ok (.iload_n 1, 1) := by decide +kernel
theorem dX7_keep_1 : decode cX7_keep 1 = .ok (.invokestatic 269, 3) := by decide +kernel
theorem dX7_keep_4 : decode cX7_keep 4 = .ok (.ifCond .eq 5, 3) := by decide +kernel
theorem dX7_keep_7 : decode cX7_keep 7 = .ok (.iconst (-1), 1) := by decide +kernel
theorem dX7_keep_8 : decode cX7_keep 8 = .ok (.ireturn, 1) := by decide +kernel
theorem dX7_keep_9 : decode cX7_keep 9 = .ok (.aload_n 0, 1) := by decide +kernel
theorem dX7_keep_10 : decode cX7_keep 10 = .ok (.getfield 75, 3) := by decide +kernel
theorem dX7_keep_13 : decode cX7_keep 13 = .ok (.iload_n 1, 1) := by decide +kernel
theorem dX7_keep_14 : decode cX7_keep 14 = .ok (.aaload, 1) := by decide +kernel
theorem dX7_keep_15 : decode cX7_keep 15 = .ok (.aload_n 0, 1) := by decide +kernel
theorem dX7_keep_16 : decode cX7_keep 16 = .ok (.getfield 39, 3) := by decide +kernel
theorem dX7_keep_19 : decode cX7_keep 19 = .ok (.invokevirtual 272, 3) := by decide +kernel
theorem dX7_keep_22 : decode cX7_keep 22 = .ok (.aload_n 0, 1) := by decide +kernel
theorem dX7_keep_23 : decode cX7_keep 23 = .ok (.dup, 1) := by decide +kernel
theorem dX7_keep_24 : decode cX7_keep 24 = .ok (.getfield 79, 3) := by decide +kernel
theorem dX7_keep_27 : decode cX7_keep 27 = .ok (.iconst 1, 1) := by decide +kernel
theorem dX7_keep_28 : decode cX7_keep 28 = .ok (.iload_n 1, 1) := by decide +kernel
theorem dX7_keep_29 : decode cX7_keep 29 = .ok (.ishl, 1) := by decide +kernel
theorem dX7_keep_30 : decode cX7_keep 30 = .ok (.ior, 1) := by decide +kernel
theorem dX7_keep_31 : decode cX7_keep 31 = .ok (.putfield 79, 3) := by decide +kernel
theorem dX7_keep_34 : decode cX7_keep 34 = .ok (.aload_n 0, 1) := by decide +kernel
theorem dX7_keep_35 : decode cX7_keep 35 = .ok (.getfield 39, 3) := by decide +kernel
theorem dX7_keep_38 : decode cX7_keep 38 = .ok (.getfield 162, 3) := by decide +kernel
theorem dX7_keep_41 : decode cX7_keep 41 = .ok (.ireturn, 1) := by decide +kernel
set_option maxRecDepth 20000 in
theorem ggX7_back_X7_noImage : GoodIn wsX7_back wsX7_noImage := goodIn_r _ [9] (by decide +kernel) (by decide +kernel)
set_option maxRecDepth 20000 in
theorem gX7_back_X7_noImage : GoodIn wsX7_back (va_wsS RX7 269 yX7_noImage wsX7_noImage) := goodIn_app (goodIn_of _ (by decide +kernel)) ggX7_back_X7_noImage
set_option maxRecDepth 20000 in
theorem ggX7_back_X7_bit : GoodIn wsX7_back wsX7_bit := goodIn_r _ [12] (by decide +kernel) (by decide +kernel)
set_option maxRecDepth 20000 in
theorem gX7_back_X7_bit : GoodIn wsX7_back (va_wsS RX7 123 yX7_bit wsX7_bit) := goodIn_app (goodIn_of _ (by decide +kernel)) ggX7_back_X7_bit
set_option maxRecDepth 20000 in
theorem ggX7_back_X2_copyFrom : GoodIn wsX7_back wsX2_copyFrom := goodIn_r _ [17, 18, 19, 20, 21, 22, 23, 24, 25, 26, 27, 28, 48, 49, 50, 51, 52, 53, 54] (by decide +kernel) (by decide +kernel)
set_option maxRecDepth 20000 in
theorem gX7_back_X2_copyFrom : GoodIn wsX7_back (wsV RX7 272 RX2 yX2_copyFrom wsX2_copyFrom) := goodIn_app (goodIn_of _ (by decide +kernel)) ggX7_back_X2_copyFrom
set_option maxRecDepth 20000 in
theorem ggX7_back_X3_lose : GoodIn wsX7_back wsX3_lose := goodIn_r _ [33, 34, 55, 56, 57] (by decide +kernel) (by decide +kernel)
set_option maxRecDepth 20000 in
theorem gX7_back_X3_lose : GoodIn wsX7_back (wsV RX7 100 RX3 yX3_lose wsX3_lose) := goodIn_app (goodIn_of _ (by decide +kernel)) ggX7_back_X3_lose
theorem dX7_back_0 : decode cX7_back 0 = .ok (.iload_n 1, 1) := by decide +kernel
theorem dX7_back_1 : decode cX7_back 1 = .ok (.invokestatic 269, 3) := by decide +kernel
theorem dX7_back_4 : decode cX7_back 4 = .ok (.ifCond .eq 5, 3) := by decide +kernel
theorem dX7_back_7 : decode cX7_back 7 = .ok (.iconst (-1), 1) := by decide +kernel
theorem dX7_back_8 : decode cX7_back 8 = .ok (.ireturn, 1) := by decide +kernel
theorem dX7_back_9 : decode cX7_back 9 = .ok (.aload_n 0, 1) := by decide +kernel
theorem dX7_back_10 : decode cX7_back 10 = .ok (.getfield 79, 3) := by decide +kernel
theorem dX7_back_13 : decode cX7_back 13 = .ok (.iload_n 1, 1) := by decide +kernel
theorem dX7_back_14 : decode cX7_back 14 = .ok (.invokestatic 123, 3) := by decide +kernel
theorem dX7_back_17 : decode cX7_back 17 = .ok (.ifCond .ne 6, 3) := by decide +kernel
theorem dX7_back_20 : decode cX7_back 20 = .ok (.bipush (-2), 2) := by decide +kernel
theorem dX7_back_22 : decode cX7_back 22 = .ok (.ireturn, 1) := by decide +kernel
theorem dX7_back_23 : decode cX7_back 23 = .ok (.aload_n 0, 1) := by decide +kernel
theorem dX7_back_24 : decode cX7_back 24 = .ok (.getfield 39, 3) := by decide +kernel
theorem dX7_back_27 : decode cX7_back 27 = .ok (.aload_n 0, 1) := by decide +kernel
theorem dX7_back_28 : decode cX7_back 28 = .ok (.getfield 75, 3) := by decide +kernel
theorem dX7_back_31 : decode cX7_back 31 = .ok (.iload_n 1, 1) := by decide +kernel
theorem dX7_back_32 : decode cX7_back 32 = .ok (.aaload, 1) := by decide +kernel
theorem dX7_back_33 : decode cX7_back 33 = .ok (.invokevirtual 272, 3) := by decide +kernel
theorem dX7_back_36 : decode cX7_back 36 = .ok (.aload_n 0, 1) := by decide +kernel
theorem dX7_back_37 : decode cX7_back 37 = .ok (.getfield 71, 3) := by decide +kernel
theorem dX7_back_40 : decode cX7_back 40 = .ok (.invokevirtual 100, 3) := by decide +kernel
theorem dX7_back_43 : decode cX7_back 43 = .ok (.aload_n 0, 1) := by decide +kernel
theorem dX7_back_44 : decode cX7_back 44 = .ok (.getfield 39, 3) := by decide +kernel
theorem dX7_back_47 : decode cX7_back 47 = .ok (.getfield 162, 3) := by decide +kernel
theorem dX7_back_50 : decode cX7_back 50 = .ok (.ireturn, 1) := by decide +kernel
theorem dX7_count_0 : decode cX7_count 0 = .ok (.iload_n 1, 1) := by decide +kernel
theorem dX7_count_1 : decode cX7_count 1 = .ok (.tableswitch 72 0 4 #[35, 43, 51, 59, 67], 35) := by decide +kernel
theorem dX7_count_36 : decode cX7_count 36 = .ok (.aload_n 0, 1) := by decide +kernel
theorem dX7_count_37 : decode cX7_count 37 = .ok (.getfield 20, 3) := by decide +kernel
theorem dX7_count_40 : decode cX7_count 40 = .ok (.getfield 274, 3) := by decide +kernel
theorem dX7_count_43 : decode cX7_count 43 = .ok (.ireturn, 1) := by decide +kernel
theorem dX7_count_44 : decode cX7_count 44 = .ok (.aload_n 0, 1) := by decide +kernel
theorem dX7_count_45 : decode cX7_count 45 = .ok (.getfield 20, 3) := by decide +kernel
theorem dX7_count_48 : decode cX7_count 48 = .ok (.getfield 277, 3) := by decide +kernel
theorem dX7_count_51 : decode cX7_count 51 = .ok (.ireturn, 1) := by decide +kernel
theorem dX7_count_52 : decode cX7_count 52 = .ok (.aload_n 0, 1) := by decide +kernel
theorem dX7_count_53 : decode cX7_count 53 = .ok (.getfield 20, 3) := by decide +kernel
theorem dX7_count_56 : decode cX7_count 56 = .ok (.getfield 189, 3) := by decide +kernel
theorem dX7_count_59 : decode cX7_count 59 = .ok (.ireturn, 1) := by decide +kernel
theorem dX7_count_60 : decode cX7_count 60 = .ok (.aload_n 0, 1) := by decide +kernel
theorem dX7_count_61 : decode cX7_count 61 = .ok (.getfield 64, 3) := by decide +kernel
theorem dX7_count_64 : decode cX7_count 64 = .ok (.getfield 228, 3) := by decide +kernel
theorem dX7_count_67 : decode cX7_count 67 = .ok (.ireturn, 1) := by decide +kernel
theorem dX7_count_68 : decode cX7_count 68 = .ok (.aload_n 0, 1) := by decide +kernel
theorem dX7_count_69 : decode cX7_count 69 = .ok (.getfield 13, 3) := by decide +kernel
theorem dX7_count_72 : decode cX7_count 72 = .ok (.ireturn, 1) := by decide +kernel
theorem dX7_count_73 : decode cX7_count 73 = .ok (.iconst (-1), 1) := by decide +kernel
theorem dX7_count_74 : decode cX7_count 74 = .ok (.ireturn, 1) := by decide +kernel
theorem dX7_trace_0 : decode cX7_trace 0 = .ok (.aload_n 0, 1) := by decide +kernel
theorem dX7_trace_1 : decode cX7_trace 1 = .ok (.getfield 82, 3) := by decide +kernel
theorem dX7_trace_4 : decode cX7_trace 4 = .ok (.lreturn, 1) := by decide +kernel
theorem dX7_asThing_0 : decode cX7_asThing 0 = .ok (.aload_n 0, 1) := by decide +kernel
theorem dX7_asThing_1 : decode cX7_asThing 1 = .ok (.dup, 1) := by decide +kernel
theorem dX7_asThing_2 : decode cX7_asThing 2 = .ok (.getfield 82, 3) := by decide +kernel
theorem dX7_asThing_5 : decode cX7_asThing 5 = .ok (.lconst 1, 1) := by decide +kernel
theorem dX7_asThing_6 : decode cX7_asThing 6 = .ok (.ladd, 1) := by decide +kernel
theorem dX7_asThing_7 : decode cX7_asThing 7 = .ok (.putfield 82, 3) := by decide +kernel
theorem dX7_asThing_10 : decode cX7_asThing 10 = .ok (.aload_n 0, 1) := by decide +kernel
theorem dX7_asThing_11 : decode cX7_asThing 11 = .ok (.getfield 20, 3) := by decide +kernel
theorem dX7_asThing_14 : decode cX7_asThing 14 = .ok (.getfield 111, 3) := by decide +kernel
theorem dX7_asThing_17 : decode cX7_asThing 17 = .ok (.iload_n 1, 1) := by decide +kernel
theorem dX7_asThing_18 : decode cX7_asThing 18 = .ok (.iaload, 1) := by decide +kernel
theorem dX7_asThing_19 : decode cX7_asThing 19 = .ok (.ireturn, 1) := by decide +kernel
set_option maxRecDepth 20000 in
theorem ggX7_asSceptre_X7_asThing : GoodIn wsX7_asSceptre wsX7_asThing := goodIn_r _ [9, 1, 3, 10, 18, 19, 20, 21, 22, 23, 24, 25, 26, 27, 28, 29, 30, 31, 32, 33, 34, 35, 36, 37] (by decide +kernel) (by decide +kernel)
set_option maxRecDepth 20000 in
theorem gX7_asSceptre_X7_asThing : GoodIn wsX7_asSceptre (wsV RX7 251 RX7 yX7_asThing wsX7_asThing) := goodIn_app (goodIn_of _ (by decide +kernel)) ggX7_asSceptre_X7_asThing
set_option maxRecDepth 20000 in
theorem ggX7_asSceptre_J6_bitCount_0f7a4 : GoodIn wsX7_asSceptre wsJ6_bitCount_0f7a4 := goodIn_r _ [14, 15, 16, 17] (by decide +kernel) (by decide +kernel)
set_option maxRecDepth 20000 in
theorem gX7_asSceptre_J6_bitCount_0f7a4 : GoodIn wsX7_asSceptre (va_wsS RX7 184 yJ6_bitCount_0f7a4 wsJ6_bitCount_0f7a4) := goodIn_app (goodIn_of _ (by decide +kernel)) ggX7_asSceptre_J6_bitCount_0f7a4
theorem dX7_asSceptre_0 : decode cX7_asSceptre 0 = .ok (.aload_n 0, 1) := by decide +kernel
theorem dX7_asSceptre_1 : decode cX7_asSceptre 1 = .ok (.dup, 1) := by decide +kernel
theorem dX7_asSceptre_2 : decode cX7_asSceptre 2 = .ok (.getfield 82, 3) := by decide +kernel
theorem dX7_asSceptre_5 : decode cX7_asSceptre 5 = .ok (.ldc2_w 280, 3) := by decide +kernel
theorem dX7_asSceptre_8 : decode cX7_asSceptre 8 = .ok (.ladd, 1) := by decide +kernel
theorem dX7_asSceptre_9 : decode cX7_asSceptre 9 = .ok (.putfield 82, 3) := by decide +kernel
theorem dX7_asSceptre_12 : decode cX7_asSceptre 12 = .ok (.aload_n 0, 1) := by decide +kernel
theorem dX7_asSceptre_13 : decode cX7_asSceptre 13 = .ok (.iload_n 1, 1) := by decide +kernel
theorem dX7_asSceptre_14 : decode cX7_asSceptre 14 = .ok (.invokevirtual 251, 3) := by decide +kernel
theorem dX7_asSceptre_17 : decode cX7_asSceptre 17 = .ok (.aload_n 0, 1) := by decide +kernel
theorem dX7_asSceptre_18 : decode cX7_asSceptre 18 = .ok (.getfield 20, 3) := by decide +kernel
theorem dX7_asSceptre_21 : decode cX7_asSceptre 21 = .ok (.getfield 114, 3) := by decide +kernel
theorem dX7_asSceptre_24 : decode cX7_asSceptre 24 = .ok (.iload_n 1, 1) := by decide +kernel
theorem dX7_asSceptre_25 : decode cX7_asSceptre 25 = .ok (.iaload, 1) := by decide +kernel
theorem dX7_asSceptre_26 : decode cX7_asSceptre 26 = .ok (.invokestatic 184, 3) := by decide +kernel
theorem dX7_asSceptre_29 : decode cX7_asSceptre 29 = .ok (.iadd, 1) := by decide +kernel
theorem dX7_asSceptre_30 : decode cX7_asSceptre 30 = .ok (.ireturn, 1) := by decide +kernel
set_option maxRecDepth 20000 in
theorem ggX7_asOrb_X7_asThing : GoodIn wsX7_asOrb wsX7_asThing := goodIn_r _ [9, 1, 10, 11, 12, 13, 14, 15, 16, 17, 18, 19, 20, 21, 22, 23, 24, 32, 33, 34, 35, 36, 37, 38] (by decide +kernel) (by decide +kernel)
set_option maxRecDepth 20000 in
theorem gX7_asOrb_X7_asThing : GoodIn wsX7_asOrb (wsV RX7 251 RX7 yX7_asThing wsX7_asThing) := goodIn_app (goodIn_of _ (by decide +kernel)) ggX7_asOrb_X7_asThing
theorem dX7_asOrb_0 : decode cX7_asOrb 0 = .ok (.aload_n 0, 1) := by decide +kernel
theorem dX7_asOrb_1 : decode cX7_asOrb 1 = .ok (.dup, 1) := by decide +kernel
theorem dX7_asOrb_2 : decode cX7_asOrb 2 = .ok (.getfield 82, 3) := by decide +kernel
theorem dX7_asOrb_5 : decode cX7_asOrb 5 = .ok (.ldc2_w 282, 3) := by decide +kernel
theorem dX7_asOrb_8 : decode cX7_asOrb 8 = .ok (.ladd, 1) := by decide +kernel
theorem dX7_asOrb_9 : decode cX7_asOrb 9 = .ok (.putfield 82, 3) := by decide +kernel
theorem dX7_asOrb_12 : decode cX7_asOrb 12 = .ok (.aload_n 0, 1) := by decide +kernel
theorem dX7_asOrb_13 : decode cX7_asOrb 13 = .ok (.iload_n 1, 1) := by decide +kernel
theorem dX7_asOrb_14 : decode cX7_asOrb 14 = .ok (.invokevirtual 251, 3) := by decide +kernel
theorem dX7_asOrb_17 : decode cX7_asOrb 17 = .ok (.aload_n 0, 1) := by decide +kernel
theorem dX7_asOrb_18 : decode cX7_asOrb 18 = .ok (.getfield 39, 3) := by decide +kernel
theorem dX7_asOrb_21 : decode cX7_asOrb 21 = .ok (.getfield 130, 3) := by decide +kernel
theorem dX7_asOrb_24 : decode cX7_asOrb 24 = .ok (.iload_n 1, 1) := by decide +kernel
theorem dX7_asOrb_25 : decode cX7_asOrb 25 = .ok (.iaload, 1) := by decide +kernel
theorem dX7_asOrb_26 : decode cX7_asOrb 26 = .ok (.isub, 1) := by decide +kernel
theorem dX7_asOrb_27 : decode cX7_asOrb 27 = .ok (.ireturn, 1) := by decide +kernel
set_option maxRecDepth 20000 in
theorem ggX7_asRing_X7_asSceptre : GoodIn wsX7_asRing wsX7_asSceptre := goodIn_r _ [7, 1, 8, 9, 10, 11, 12, 13, 6, 14, 15, 16, 17, 18, 19, 20, 21, 22, 23, 24, 25, 26, 27, 28, 29, 30, 31, 32, 33, 34, 35, 36, 37, 38, 39, 40, 41, 42] (by decide +kernel) (by decide +kernel)
set_option maxRecDepth 20000 in
theorem gX7_asRing_X7_asSceptre : GoodIn wsX7_asRing (wsV RX7 254 RX7 yX7_asSceptre wsX7_asSceptre) := goodIn_app (goodIn_of _ (by decide +kernel)) ggX7_asRing_X7_asSceptre
theorem dX7_asRing_0 : decode cX7_asRing 0 = .ok (.aload_n 0, 1) := by decide +kernel
theorem dX7_asRing_1 : decode cX7_asRing 1 = .ok (.dup, 1) := by decide +kernel
theorem dX7_asRing_2 : decode cX7_asRing 2 = .ok (.getfield 82, 3) := by decide +kernel
theorem dX7_asRing_5 : decode cX7_asRing 5 = .ok (.ldc2_w 284, 3) := by decide +kernel
theorem dX7_asRing_8 : decode cX7_asRing 8 = .ok (.ladd, 1) := by decide +kernel
theorem dX7_asRing_9 : decode cX7_asRing 9 = .ok (.putfield 82, 3) := by decide +kernel
theorem dX7_asRing_12 : decode cX7_asRing 12 = .ok (.iconst 2, 1) := by decide +kernel
theorem dX7_asRing_13 : decode cX7_asRing 13 = .ok (.aload_n 0, 1) := by decide +kernel
theorem dX7_asRing_14 : decode cX7_asRing 14 = .ok (.iload_n 1, 1) := by decide +kernel
theorem dX7_asRing_15 : decode cX7_asRing 15 = .ok (.invokevirtual 254, 3) := by decide +kernel
theorem dX7_asRing_18 : decode cX7_asRing 18 = .ok (.imul, 1) := by decide +kernel
theorem dX7_asRing_19 : decode cX7_asRing 19 = .ok (.ireturn, 1) := by decide +kernel
set_option maxRecDepth 20000 in
theorem ggX7_asSeal_X7_asOrb : GoodIn wsX7_asSeal wsX7_asOrb := goodIn_r _ [7, 1, 8, 9, 10, 11, 12, 13, 6, 14, 15, 16, 17, 18, 19, 20, 21, 22, 23, 24, 25, 26, 27, 28, 29, 30, 31, 32, 33, 34, 35, 36, 37, 38, 39, 40, 41, 42, 43] (by decide +kernel) (by decide +kernel)
set_option maxRecDepth 20000 in
theorem gX7_asSeal_X7_asOrb : GoodIn wsX7_asSeal (wsV RX7 257 RX7 yX7_asOrb wsX7_asOrb) := goodIn_app (goodIn_of _ (by decide +kernel)) ggX7_asSeal_X7_asOrb
theorem dX7_asSeal_0 : decode cX7_asSeal 0 = .ok (.aload_n 0, 1) := by decide +kernel
theorem dX7_asSeal_1 : decode cX7_asSeal 1 = .ok (.dup, 1) := by decide +kernel
theorem dX7_asSeal_2 : decode cX7_asSeal 2 = .ok (.getfield 82, 3) := by decide +kernel
theorem dX7_asSeal_5 : decode cX7_asSeal 5 = .ok (.ldc2_w 286, 3) := by decide +kernel
theorem dX7_asSeal_8 : decode cX7_asSeal 8 = .ok (.ladd, 1) := by decide +kernel
theorem dX7_asSeal_9 : decode cX7_asSeal 9 = .ok (.putfield 82, 3) := by decide +kernel
theorem dX7_asSeal_12 : decode cX7_asSeal 12 = .ok (.aload_n 0, 1) := by decide +kernel
theorem dX7_asSeal_13 : decode cX7_asSeal 13 = .ok (.iload_n 1, 1) := by decide +kernel
theorem dX7_asSeal_14 : decode cX7_asSeal 14 = .ok (.invokevirtual 257, 3) := by decide +kernel
theorem dX7_asSeal_17 : decode cX7_asSeal 17 = .ok (.iload_n 1, 1) := by decide +kernel
theorem dX7_asSeal_18 : decode cX7_asSeal 18 = .ok (.iadd, 1) := by decide +kernel
theorem dX7_asSeal_19 : decode cX7_asSeal 19 = .ok (.ireturn, 1) := by decide +kernel
set_option maxRecDepth 20000 in
theorem ggX7_asSpoon_X7_asThing : GoodIn wsX7_asSpoon wsX7_asThing := goodIn_r _ [9, 1, 10, 11, 12, 13, 14, 15, 16, 17, 18, 19, 20, 21, 22, 23, 24, 32, 33, 34, 35, 36, 37, 38] (by decide +kernel) (by decide +kernel)
set_option maxRecDepth 20000 in
theorem gX7_asSpoon_X7_asThing : GoodIn wsX7_asSpoon (wsV RX7 251 RX7 yX7_asThing wsX7_asThing) := goodIn_app (goodIn_of _ (by decide +kernel)) ggX7_asSpoon_X7_asThing
theorem dX7_asSpoon_0 : decode cX7_asSpoon 0 = .ok (.aload_n 0, 1) := by decide +kernel
theorem dX7_asSpoon_1 : decode cX7_asSpoon 1 = .ok (.dup, 1) := by decide +kernel
theorem dX7_asSpoon_2 : decode cX7_asSpoon 2 = .ok (.getfield 82, 3) := by decide +kernel
theorem dX7_asSpoon_5 : decode cX7_asSpoon 5 = .ok (.ldc2_w 288, 3) := by decide +kernel
theorem dX7_asSpoon_8 : decode cX7_asSpoon 8 = .ok (.ladd, 1) := by decide +kernel
theorem dX7_asSpoon_9 : decode cX7_asSpoon 9 = .ok (.putfield 82, 3) := by decide +kernel
theorem dX7_asSpoon_12 : decode cX7_asSpoon 12 = .ok (.aload_n 0, 1) := by decide +kernel
theorem dX7_asSpoon_13 : decode cX7_asSpoon 13 = .ok (.iload_n 1, 1) := by decide +kernel
theorem dX7_asSpoon_14 : decode cX7_asSpoon 14 = .ok (.invokevirtual 251, 3) := by decide +kernel
theorem dX7_asSpoon_17 : decode cX7_asSpoon 17 = .ok (.aload_n 0, 1) := by decide +kernel
theorem dX7_asSpoon_18 : decode cX7_asSpoon 18 = .ok (.getfield 39, 3) := by decide +kernel
theorem dX7_asSpoon_21 : decode cX7_asSpoon 21 = .ok (.getfield 162, 3) := by decide +kernel
theorem dX7_asSpoon_24 : decode cX7_asSpoon 24 = .ok (.iadd, 1) := by decide +kernel
theorem dX7_asSpoon_25 : decode cX7_asSpoon 25 = .ok (.ireturn, 1) := by decide +kernel
theorem dX7_noThing_0 : decode cX7_noThing 0 = .ok (.iload_n 1, 1) := by decide +kernel
theorem dX7_noThing_1 : decode cX7_noThing 1 = .ok (.ifCond .lt 14, 3) := by decide +kernel
theorem dX7_noThing_4 : decode cX7_noThing 4 = .ok (.iload_n 1, 1) := by decide +kernel
theorem dX7_noThing_5 : decode cX7_noThing 5 = .ok (.aload_n 0, 1) := by decide +kernel
theorem dX7_noThing_6 : decode cX7_noThing 6 = .ok (.getfield 20, 3) := by decide +kernel
theorem dX7_noThing_9 : decode cX7_noThing 9 = .ok (.getfield 274, 3) := by decide +kernel
theorem dX7_noThing_12 : decode cX7_noThing 12 = .ok (.if_icmp .lt 7, 3) := by decide +kernel
theorem dX7_noThing_15 : decode cX7_noThing 15 = .ok (.iconst 1, 1) := by decide +kernel
theorem dX7_noThing_16 : decode cX7_noThing 16 = .ok (.goto 4, 3) := by decide +kernel
theorem dX7_noThing_19 : decode cX7_noThing 19 = .ok (.iconst 0, 1) := by decide +kernel
theorem dX7_noThing_20 : decode cX7_noThing 20 = .ok (.ireturn, 1) := by decide +kernel
theorem dX7_noOfficer_0 : decode cX7_noOfficer 0 = .ok (.iload_n 1, 1) := by decide +kernel
theorem dX7_noOfficer_1 : decode cX7_noOfficer 1 = .ok (.ifCond .lt 14, 3) := by decide +kernel
theorem dX7_noOfficer_4 : decode cX7_noOfficer 4 = .ok (.iload_n 1, 1) := by decide +kernel
theorem dX7_noOfficer_5 : decode cX7_noOfficer 5 = .ok (.aload_n 0, 1) := by decide +kernel
theorem dX7_noOfficer_6 : decode cX7_noOfficer 6 = .ok (.getfield 20, 3) := by decide +kernel
theorem dX7_noOfficer_9 : decode cX7_noOfficer 9 = .ok (.getfield 277, 3) := by decide +kernel
theorem dX7_noOfficer_12 : decode cX7_noOfficer 12 = .ok (.if_icmp .lt 7, 3) := by decide +kernel
theorem dX7_noOfficer_15 : decode cX7_noOfficer 15 = .ok (.iconst 1, 1) := by decide +kernel
theorem dX7_noOfficer_16 : decode cX7_noOfficer 16 = .ok (.goto 4, 3) := by decide +kernel
theorem dX7_noOfficer_19 : decode cX7_noOfficer 19 = .ok (.iconst 0, 1) := by decide +kernel
theorem dX7_noOfficer_20 : decode cX7_noOfficer 20 = .ok (.ireturn, 1) := by decide +kernel
theorem dX7_noBill_0 : decode cX7_noBill 0 = .ok (.iload_n 0, 1) := by decide +kernel
theorem dX7_noBill_1 : decode cX7_noBill 1 = .ok (.ifCond .lt 8, 3) := by decide +kernel
theorem dX7_noBill_4 : decode cX7_noBill 4 = .ok (.iload_n 0, 1) := by decide +kernel
theorem dX7_noBill_5 : decode cX7_noBill 5 = .ok (.iconst 5, 1) := by decide +kernel
theorem dX7_noBill_6 : decode cX7_noBill 6 = .ok (.if_icmp .lt 7, 3) := by decide +kernel
theorem dX7_noBill_9 : decode cX7_noBill 9 = .ok (.iconst 1, 1) := by decide +kernel
theorem dX7_noBill_10 : decode cX7_noBill 10 = .ok (.goto 4, 3) := by decide +kernel
theorem dX7_noBill_13 : decode cX7_noBill 13 = .ok (.iconst 0, 1) := by decide +kernel
theorem dX7_noBill_14 : decode cX7_noBill 14 = .ok (.ireturn, 1) := by decide +kernel
theorem dX7_noTerm_0 : decode cX7_noTerm 0 = .ok (.iload_n 0, 1) := by decide +kernel
theorem dX7_noTerm_1 : decode cX7_noTerm 1 = .ok (.ifCond .lt 8, 3) := by decide +kernel
theorem dX7_noTerm_4 : decode cX7_noTerm 4 = .ok (.iload_n 0, 1) := by decide +kernel
theorem dX7_noTerm_5 : decode cX7_noTerm 5 = .ok (.iconst 1, 1) := by decide +kernel
theorem dX7_noTerm_6 : decode cX7_noTerm 6 = .ok (.if_icmp .le 7, 3) := by decide +kernel
theorem dX7_noTerm_9 : decode cX7_noTerm 9 = .ok (.iconst 1, 1) := by decide +kernel
theorem dX7_noTerm_10 : decode cX7_noTerm 10 = .ok (.goto 4, 3) := by decide +kernel
theorem dX7_noTerm_13 : decode cX7_noTerm 13 = .ok (.iconst 0, 1) := by decide +kernel
theorem dX7_noTerm_14 : decode cX7_noTerm 14 = .ok (.ireturn, 1) := by decide +kernel
theorem dX7_noImage_0 : decode cX7_noImage 0 = .ok (.iload_n 0, 1) := by decide +kernel
theorem dX7_noImage_1 : decode cX7_noImage 1 = .ok (.ifCond .lt 8, 3) := by decide +kernel
theorem dX7_noImage_4 : decode cX7_noImage 4 = .ok (.iload_n 0, 1) := by decide +kernel
theorem dX7_noImage_5 : decode cX7_noImage 5 = .ok (.iconst 2, 1) := by decide +kernel
theorem dX7_noImage_6 : decode cX7_noImage 6 = .ok (.if_icmp .lt 7, 3) := by decide +kernel
theorem dX7_noImage_9 : decode cX7_noImage 9 = .ok (.iconst 1, 1) := by decide +kernel
theorem dX7_noImage_10 : decode cX7_noImage 10 = .ok (.goto 4, 3) := by decide +kernel
theorem dX7_noImage_13 : decode cX7_noImage 13 = .ok (.iconst 0, 1) := by decide +kernel
theorem dX7_noImage_14 : decode cX7_noImage 14 = .ok (.ireturn, 1) := by decide +kernel
theorem dX7_bit_0 : decode cX7_bit 0 = .ok (.iload_n 0, 1) := by decide +kernel
theorem dX7_bit_1 : decode cX7_bit 1 = .ok (.iload_n 1, 1) := by decide +kernel
theorem dX7_bit_2 : decode cX7_bit 2 = .ok (.ishr, 1) := by decide +kernel
theorem dX7_bit_3 : decode cX7_bit 3 = .ok (.iconst 1, 1) := by decide +kernel
theorem dX7_bit_4 : decode cX7_bit 4 = .ok (.iand, 1) := by decide +kernel
theorem dX7_bit_5 : decode cX7_bit 5 = .ok (.ireturn, 1) := by decide +kernel
theorem dX7_isWithin_0 : decode cX7_isWithin 0 = .ok (.iload_n 0, 1) := by decide +kernel
theorem dX7_isWithin_1 : decode cX7_isWithin 1 = .ok (.iload_n 1, 1) := by decide +kernel
theorem dX7_isWithin_2 : decode cX7_isWithin 2 = .ok (.iconst (-1), 1) := by decide +kernel
theorem dX7_isWithin_3 : decode cX7_isWithin 3 = .ok (.ixor, 1) := by decide +kernel
theorem dX7_isWithin_4 : decode cX7_isWithin 4 = .ok (.iand, 1) := by decide +kernel
theorem dX7_isWithin_5 : decode cX7_isWithin 5 = .ok (.ifCond .ne 7, 3) := by decide +kernel
theorem dX7_isWithin_8 : decode cX7_isWithin 8 = .ok (.iconst 1, 1) := by decide +kernel
theorem dX7_isWithin_9 : decode cX7_isWithin 9 = .ok (.goto 4, 3) := by decide +kernel
theorem dX7_isWithin_12 : decode cX7_isWithin 12 = .ok (.iconst 0, 1) := by decide +kernel
theorem dX7_isWithin_13 : decode cX7_isWithin 13 = .ok (.ireturn, 1) := by decide +kernel
set_option maxRecDepth 20000 in
theorem ggX7_term_X7_commonDivisor : GoodIn wsX7_term wsX7_commonDivisor := goodIn_r _ [4] (by decide +kernel) (by decide +kernel)
set_option maxRecDepth 20000 in
theorem gX7_term_X7_commonDivisor : GoodIn wsX7_term (va_wsS RX7 290 yX7_commonDivisor wsX7_commonDivisor) := goodIn_app (goodIn_of _ (by decide +kernel)) ggX7_term_X7_commonDivisor
theorem dX7_term_0 : decode cX7_term 0 = .ok (.iload_n 0, 1) := by decide +kernel
theorem dX7_term_1 : decode cX7_term 1 = .ok (.iload_n 1, 1) := by decide +kernel
theorem dX7_term_2 : decode cX7_term 2 = .ok (.invokestatic 290, 3) := by decide +kernel
theorem dX7_term_5 : decode cX7_term 5 = .ok (.istore_n 3, 1) := by decide +kernel
theorem dX7_term_6 : decode cX7_term 6 = .ok (.iload_n 3, 1) := by decide +kernel
theorem dX7_term_7 : decode cX7_term 7 = .ok (.ifCond .ne 5, 3) := by decide +kernel
theorem dX7_term_10 : decode cX7_term 10 = .ok (.iload_n 2, 1) := by decide +kernel
theorem dX7_term_11 : decode cX7_term 11 = .ok (.ireturn, 1) := by decide +kernel
theorem dX7_term_12 : decode cX7_term 12 = .ok (.iload_n 2, 1) := by decide +kernel
theorem dX7_term_13 : decode cX7_term 13 = .ok (.ifCond .ne 9, 3) := by decide +kernel
theorem dX7_term_16 : decode cX7_term 16 = .ok (.iload_n 0, 1) := by decide +kernel
theorem dX7_term_17 : decode cX7_term 17 = .ok (.iload_n 3, 1) := by decide +kernel
theorem dX7_term_18 : decode cX7_term 18 = .ok (.idiv, 1) := by decide +kernel
theorem dX7_term_19 : decode cX7_term 19 = .ok (.goto 6, 3) := by decide +kernel
theorem dX7_term_22 : decode cX7_term 22 = .ok (.iload_n 1, 1) := by decide +kernel
theorem dX7_term_23 : decode cX7_term 23 = .ok (.iload_n 3, 1) := by decide +kernel
theorem dX7_term_24 : decode cX7_term 24 = .ok (.idiv, 1) := by decide +kernel
theorem dX7_term_25 : decode cX7_term 25 = .ok (.ireturn, 1) := by decide +kernel
theorem dX7_commonDivisor_0 : decode cX7_commonDivisor 0 = .ok (.iload_n 0, 1) := by decide +kernel
theorem dX7_commonDivisor_1 : decode cX7_commonDivisor 1 = .ok (.istore_n 2, 1) := by decide +kernel
theorem dX7_commonDivisor_2 : decode cX7_commonDivisor 2 = .ok (.iload_n 1, 1) := by decide +kernel
theorem dX7_commonDivisor_3 : decode cX7_commonDivisor 3 = .ok (.istore_n 3, 1) := by decide +kernel
theorem dX7_commonDivisor_4 : decode cX7_commonDivisor 4 = .ok (.iconst 0, 1) := by decide +kernel
theorem dX7_commonDivisor_5 : decode cX7_commonDivisor 5 = .ok (.istore 4, 2) := by decide +kernel
theorem dX7_commonDivisor_7 : decode cX7_commonDivisor 7 = .ok (.iload 4, 2) := by decide +kernel
theorem dX7_commonDivisor_9 : decode cX7_commonDivisor 9 = .ok (.bipush 64, 2) := by decide +kernel
theorem dX7_commonDivisor_11 : decode cX7_commonDivisor 11 = .ok (.if_icmp .ge 23, 3) := by decide +kernel
theorem dX7_commonDivisor_14 : decode cX7_commonDivisor 14 = .ok (.iload_n 3, 1) := by decide +kernel
theorem dX7_commonDivisor_15 : decode cX7_commonDivisor 15 = .ok (.ifCond .eq 19, 3) := by decide +kernel
theorem dX7_commonDivisor_18 : decode cX7_commonDivisor 18 = .ok (.iload_n 2, 1) := by decide +kernel
theorem dX7_commonDivisor_19 : decode cX7_commonDivisor 19 = .ok (.iload_n 3, 1) := by decide +kernel
theorem dX7_commonDivisor_20 : decode cX7_commonDivisor 20 = .ok (.irem, 1) := by decide +kernel
theorem dX7_commonDivisor_21 : decode cX7_commonDivisor 21 = .ok (.istore 5, 2) := by decide +kernel
theorem dX7_commonDivisor_23 : decode cX7_commonDivisor 23 = .ok (.iload_n 3, 1) := by decide +kernel
theorem dX7_commonDivisor_24 : decode cX7_commonDivisor 24 = .ok (.istore_n 2, 1) := by decide +kernel
theorem dX7_commonDivisor_25 : decode cX7_commonDivisor 25 = .ok (.iload 5, 2) := by decide +kernel
theorem dX7_commonDivisor_27 : decode cX7_commonDivisor 27 = .ok (.istore_n 3, 1) := by decide +kernel
theorem dX7_commonDivisor_28 : decode cX7_commonDivisor 28 = .ok (.iinc 4 1, 3) := by decide +kernel
theorem dX7_commonDivisor_31 : decode cX7_commonDivisor 31 = .ok (.goto (-24), 3) := by decide +kernel
theorem dX7_commonDivisor_34 : decode cX7_commonDivisor 34 = .ok (.iload_n 2, 1) := by decide +kernel
theorem dX7_commonDivisor_35 : decode cX7_commonDivisor 35 = .ok (.ireturn, 1) := by decide +kernel
theorem dX8_init_0 : decode cX8_init 0 = .ok (.aload_n 0, 1) := by decide +kernel
theorem dX8_init_1 : decode cX8_init 1 = .ok (.invokespecial 1, 3) := by decide +kernel
theorem dX8_init_4 : decode cX8_init 4 = .ok (.aload_n 0, 1) := by decide +kernel
theorem dX8_init_5 : decode cX8_init 5 = .ok (.sipush 200, 3) := by decide +kernel
theorem dX8_init_8 : decode cX8_init 8 = .ok (.newarray .int, 2) := by decide +kernel
theorem dX8_init_10 : decode cX8_init 10 = .ok (.putfield 7, 3) := by decide +kernel
theorem dX8_init_13 : decode cX8_init 13 = .ok (.aload_n 0, 1) := by decide +kernel
theorem dX8_init_14 : decode cX8_init 14 = .ok (.bipush 6, 2) := by decide +kernel
theorem dX8_init_16 : decode cX8_init 16 = .ok (.newarray .int, 2) := by decide +kernel
theorem dX8_init_18 : decode cX8_init 18 = .ok (.putfield 13, 3) := by decide +kernel
theorem dX8_init_21 : decode cX8_init 21 = .ok (.aload_n 0, 1) := by decide +kernel
theorem dX8_init_22 : decode cX8_init 22 = .ok (.bipush 14, 2) := by decide +kernel
theorem dX8_init_24 : decode cX8_init 24 = .ok (.newarray .int, 2) := by decide +kernel
theorem dX8_init_26 : decode cX8_init 26 = .ok (.putfield 16, 3) := by decide +kernel
theorem dX8_init_29 : decode cX8_init 29 = .ok (.aload_n 0, 1) := by decide +kernel
theorem dX8_init_30 : decode cX8_init 30 = .ok (.bipush 14, 2) := by decide +kernel
theorem dX8_init_32 : decode cX8_init 32 = .ok (.newarray .int, 2) := by decide +kernel
theorem dX8_init_34 : decode cX8_init 34 = .ok (.putfield 19, 3) := by decide +kernel
theorem dX8_init_37 : decode cX8_init 37 = .ok (.aload_n 0, 1) := by decide +kernel
theorem dX8_init_38 : decode cX8_init 38 = .ok (.bipush 14, 2) := by decide +kernel
theorem dX8_init_40 : decode cX8_init 40 = .ok (.newarray .int, 2) := by decide +kernel
theorem dX8_init_42 : decode cX8_init 42 = .ok (.putfield 22, 3) := by decide +kernel
theorem dX8_init_45 : decode cX8_init 45 = .ok (.aload_n 0, 1) := by decide +kernel
theorem dX8_init_46 : decode cX8_init 46 = .ok (.bipush 7, 2) := by decide +kernel
theorem dX8_init_48 : decode cX8_init 48 = .ok (.newarray .int, 2) := by decide +kernel
theorem dX8_init_50 : decode cX8_init 50 = .ok (.putfield 25, 3) := by decide +kernel
theorem dX8_init_53 : decode cX8_init 53 = .ok (.aload_n 0, 1) := by decide +kernel
theorem dX8_init_54 : decode cX8_init 54 = .ok (.bipush 19, 2) := by decide +kernel
theorem dX8_init_56 : decode cX8_init 56 = .ok (.newarray .int, 2) := by decide +kernel
theorem dX8_init_58 : decode cX8_init 58 = .ok (.putfield 28, 3) := by decide +kernel
theorem dX8_init_61 : decode cX8_init 61 = .ok (.aload_n 0, 1) := by decide +kernel
theorem dX8_init_62 : decode cX8_init 62 = .ok (.bipush 19, 2) := by decide +kernel
theorem dX8_init_64 : decode cX8_init 64 = .ok (.newarray .int, 2) := by decide +kernel
theorem dX8_init_66 : decode cX8_init 66 = .ok (.putfield 31, 3) := by decide +kernel
theorem dX8_init_69 : decode cX8_init 69 = .ok (.aload_n 0, 1) := by decide +kernel
theorem dX8_init_70 : decode cX8_init 70 = .ok (.bipush 38, 2) := by decide +kernel
theorem dX8_init_72 : decode cX8_init 72 = .ok (.newarray .int, 2) := by decide +kernel
theorem dX8_init_74 : decode cX8_init 74 = .ok (.putfield 34, 3) := by decide +kernel
theorem dX8_init_77 : decode cX8_init 77 = .ok (.aload_n 0, 1) := by decide +kernel
theorem dX8_init_78 : decode cX8_init 78 = .ok (.iconst 2, 1) := by decide +kernel
theorem dX8_init_79 : decode cX8_init 79 = .ok (.newarray .boolean, 2) := by decide +kernel
theorem dX8_init_81 : decode cX8_init 81 = .ok (.putfield 37, 3) := by decide +kernel
theorem dX8_init_84 : decode cX8_init 84 = .ok (.aload_n 0, 1) := by decide +kernel
theorem dX8_init_85 : decode cX8_init 85 = .ok (.sipush 190, 3) := by decide +kernel
theorem dX8_init_88 : decode cX8_init 88 = .ok (.newarray .int, 2) := by decide +kernel
theorem dX8_init_90 : decode cX8_init 90 = .ok (.putfield 41, 3) := by decide +kernel
theorem dX8_init_93 : decode cX8_init 93 = .ok (.aload_n 0, 1) := by decide +kernel
theorem dX8_init_94 : decode cX8_init 94 = .ok (.bipush 6, 2) := by decide +kernel
theorem dX8_init_96 : decode cX8_init 96 = .ok (.newarray .int, 2) := by decide +kernel
theorem dX8_init_98 : decode cX8_init 98 = .ok (.putfield 44, 3) := by decide +kernel
theorem dX8_init_101 : decode cX8_init 101 = .ok (.aload_n 0, 1) := by decide +kernel
theorem dX8_init_102 : decode cX8_init 102 = .ok (.bipush 6, 2) := by decide +kernel
theorem dX8_init_104 : decode cX8_init 104 = .ok (.newarray .int, 2) := by decide +kernel
theorem dX8_init_106 : decode cX8_init 106 = .ok (.putfield 47, 3) := by decide +kernel
theorem dX8_init_109 : decode cX8_init 109 = .ok (.aload_n 0, 1) := by decide +kernel
theorem dX8_init_110 : decode cX8_init 110 = .ok (.getfield 13, 3) := by decide +kernel
theorem dX8_init_113 : decode cX8_init 113 = .ok (.iconst 1, 1) := by decide +kernel
theorem dX8_init_114 : decode cX8_init 114 = .ok (.iconst 3, 1) := by decide +kernel
theorem dX8_init_115 : decode cX8_init 115 = .ok (.iastore, 1) := by decide +kernel
theorem dX8_init_116 : decode cX8_init 116 = .ok (.aload_n 0, 1) := by decide +kernel
theorem dX8_init_117 : decode cX8_init 117 = .ok (.getfield 13, 3) := by decide +kernel
theorem dX8_init_120 : decode cX8_init 120 = .ok (.iconst 2, 1) := by decide +kernel
theorem dX8_init_121 : decode cX8_init 121 = .ok (.iconst 2, 1) := by decide +kernel
theorem dX8_init_122 : decode cX8_init 122 = .ok (.iastore, 1) := by decide +kernel
theorem dX8_init_123 : decode cX8_init 123 = .ok (.return_, 1) := by decide +kernel
theorem dX8_in_0 : decode cX8_in 0 = .ok (.iload_n 0, 1) := by decide +kernel
theorem dX8_in_1 : decode cX8_in 1 = .ok (.iload_n 1, 1) := by decide +kernel
theorem dX8_in_2 : decode cX8_in 2 = .ok (.if_icmp .lt 12, 3) := by decide +kernel
theorem dX8_in_5 : decode cX8_in 5 = .ok (.iload_n 0, 1) := by decide +kernel
theorem dX8_in_6 : decode cX8_in 6 = .ok (.iload_n 2, 1) := by decide +kernel
theorem dX8_in_7 : decode cX8_in 7 = .ok (.if_icmp .gt 7, 3) := by decide +kernel
theorem dX8_in_10 : decode cX8_in 10 = .ok (.iconst 1, 1) := by decide +kernel
theorem dX8_in_11 : decode cX8_in 11 = .ok (.goto 4, 3) := by decide +kernel
theorem dX8_in_14 : decode cX8_in 14 = .ok (.iconst 0, 1) := by decide +kernel
theorem dX8_in_15 : decode cX8_in 15 = .ok (.ireturn, 1) := by decide +kernel
theorem dX8_ones_0 : decode cX8_ones 0 = .ok (.iconst 0, 1) := by decide +kernel
theorem dX8_ones_1 : decode cX8_ones 1 = .ok (.istore_n 1, 1) := by decide +kernel
theorem dX8_ones_2 : decode cX8_ones 2 = .ok (.iconst 0, 1) := by decide +kernel
theorem dX8_ones_3 : decode cX8_ones 3 = .ok (.istore_n 2, 1) := by decide +kernel
theorem dX8_ones_4 : decode cX8_ones 4 = .ok (.iload_n 2, 1) := by decide +kernel
theorem dX8_ones_5 : decode cX8_ones 5 = .ok (.bipush 7, 2) := by decide +kernel
theorem dX8_ones_7 : decode cX8_ones 7 = .ok (.if_icmp .ge 17, 3) := by decide +kernel
theorem dX8_ones_10 : decode cX8_ones 10 = .ok (.iload_n 1, 1) := by decide +kernel
theorem dX8_ones_11 : decode cX8_ones 11 = .ok (.iload_n 0, 1) := by decide +kernel
theorem dX8_ones_12 : decode cX8_ones 12 = .ok (.iload_n 2, 1) := by decide +kernel
theorem dX8_ones_13 : decode cX8_ones 13 = .ok (.ishr, 1) := by decide +kernel
theorem dX8_ones_14 : decode cX8_ones 14 = .ok (.iconst 1, 1) := by decide +kernel
theorem dX8_ones_15 : decode cX8_ones 15 = .ok (.iand, 1) := by decide +kernel
theorem dX8_ones_16 : decode cX8_ones 16 = .ok (.iadd, 1) := by decide +kernel
theorem dX8_ones_17 : decode cX8_ones 17 = .ok (.istore_n 1, 1) := by decide +kernel
theorem dX8_ones_18 : decode cX8_ones 18 = .ok (.iinc 2 1, 3) := by decide +kernel
theorem dX8_ones_21 : decode cX8_ones 21 = .ok (.goto (-17), 3) := by decide +kernel
theorem dX8_ones_24 : decode cX8_ones 24 = .ok (.iload_n 1, 1) := by decide +kernel
theorem dX8_ones_25 : decode cX8_ones 25 = .ok (.ireturn, 1) := by decide +kernel
set_option maxRecDepth 20000 in
theorem ggX8_type_X8_in : GoodIn wsX8_type wsX8_in := goodIn_r _ [7] (by decide +kernel) (by decide +kernel)
set_option maxRecDepth 20000 in
theorem gX8_type_X8_in : GoodIn wsX8_type (va_wsS RX8 54 yX8_in wsX8_in) := goodIn_app (goodIn_of _ (by decide +kernel)) ggX8_type_X8_in
theorem dX8_type_0 : decode cX8_type 0 = .ok (.aload_n 0, 1) := by decide +kernel
theorem dX8_type_1 : decode cX8_type 1 = .ok (.iconst 0, 1) := by decide +kernel
theorem dX8_type_2 : decode cX8_type 2 = .ok (.putfield 50, 3) := by decide +kernel
theorem dX8_type_5 : decode cX8_type 5 = .ok (.iload_n 1, 1) := by decide +kernel
theorem dX8_type_6 : decode cX8_type 6 = .ok (.iconst 0, 1) := by decide +kernel
theorem dX8_type_7 : decode cX8_type 7 = .ok (.sipush 255, 3) := by decide +kernel
theorem dX8_type_10 : decode cX8_type 10 = .ok (.invokestatic 54, 3) := by decide +kernel
theorem dX8_type_13 : decode cX8_type 13 = .ok (.ifCond .ne 5, 3) := by decide +kernel
theorem dX8_type_16 : decode cX8_type 16 = .ok (.iconst (-1), 1) := by decide +kernel
theorem dX8_type_17 : decode cX8_type 17 = .ok (.ireturn, 1) := by decide +kernel
theorem dX8_type_18 : decode cX8_type 18 = .ok (.aload_n 0, 1) := by decide +kernel
theorem dX8_type_19 : decode cX8_type 19 = .ok (.getfield 58, 3) := by decide +kernel
theorem dX8_type_22 : decode cX8_type 22 = .ok (.sipush 200, 3) := by decide +kernel
theorem dX8_type_25 : decode cX8_type 25 = .ok (.if_icmp .ne 6, 3) := by decide +kernel
theorem dX8_type_28 : decode cX8_type 28 = .ok (.bipush (-3), 2) := by decide +kernel
theorem dX8_type_30 : decode cX8_type 30 = .ok (.ireturn, 1) := by decide +kernel
theorem dX8_type_31 : decode cX8_type 31 = .ok (.aload_n 0, 1) := by decide +kernel
theorem dX8_type_32 : decode cX8_type 32 = .ok (.getfield 7, 3) := by decide +kernel
theorem dX8_type_35 : decode cX8_type 35 = .ok (.aload_n 0, 1) := by decide +kernel
theorem dX8_type_36 : decode cX8_type 36 = .ok (.getfield 58, 3) := by decide +kernel
theorem dX8_type_39 : decode cX8_type 39 = .ok (.iload_n 1, 1) := by decide +kernel
theorem dX8_type_40 : decode cX8_type 40 = .ok (.iastore, 1) := by decide +kernel
theorem dX8_type_41 : decode cX8_type 41 = .ok (.aload_n 0, 1) := by decide +kernel
theorem dX8_type_42 : decode cX8_type 42 = .ok (.dup, 1) := by decide +kernel
theorem dX8_type_43 : decode cX8_type 43 = .ok (.getfield 58, 3) := by decide +kernel
theorem dX8_type_46 : decode cX8_type 46 = .ok (.iconst 1, 1) := by decide +kernel
theorem dX8_type_47 : decode cX8_type 47 = .ok (.iadd, 1) := by decide +kernel
theorem dX8_type_48 : decode cX8_type 48 = .ok (.putfield 58, 3) := by decide +kernel
theorem dX8_type_51 : decode cX8_type 51 = .ok (.aload_n 0, 1) := by decide +kernel
theorem dX8_type_52 : decode cX8_type 52 = .ok (.getfield 58, 3) := by decide +kernel
theorem dX8_type_55 : decode cX8_type 55 = .ok (.ireturn, 1) := by decide +kernel
theorem dX8_clear_0 : decode cX8_clear 0 = .ok (.aload_n 0, 1) := by decide +kernel
theorem dX8_clear_1 : decode cX8_clear 1 = .ok (.iconst 0, 1) := by decide +kernel
theorem dX8_clear_2 : decode cX8_clear 2 = .ok (.putfield 50, 3) := by decide +kernel
theorem dX8_clear_5 : decode cX8_clear 5 = .ok (.aload_n 0, 1) := by decide +kernel
theorem dX8_clear_6 : decode cX8_clear 6 = .ok (.getfield 58, 3) := by decide +kernel
theorem dX8_clear_9 : decode cX8_clear 9 = .ok (.istore_n 1, 1) := by decide +kernel
theorem dX8_clear_10 : decode cX8_clear 10 = .ok (.aload_n 0, 1) := by decide +kernel
theorem dX8_clear_11 : decode cX8_clear 11 = .ok (.iconst 0, 1) := by decide +kernel
theorem dX8_clear_12 : decode cX8_clear 12 = .ok (.putfield 58, 3) := by decide +kernel
theorem dX8_clear_15 : decode cX8_clear 15 = .ok (.iload_n 1, 1) := by decide +kernel
theorem dX8_clear_16 : decode cX8_clear 16 = .ok (.ireturn, 1) := by decide +kernel
theorem dX8_letterAt_0 : decode cX8_letterAt 0 = .ok (.iload_n 1, 1) := by decide +kernel
theorem dX8_letterAt_1 : decode cX8_letterAt 1 = .ok (.aload_n 0, 1) := by decide +kernel
theorem dX8_letterAt_2 : decode cX8_letterAt 2 = .ok (.getfield 58, 3) := by decide +kernel
theorem dX8_letterAt_5 : decode cX8_letterAt 5 = .ok (.if_icmp .ge 12, 3) := by decide +kernel
theorem dX8_letterAt_8 : decode cX8_letterAt 8 = .ok (.aload_n 0, 1) := by decide +kernel
theorem dX8_letterAt_9 : decode cX8_letterAt 9 = .ok (.getfield 7, 3) := by decide +kernel
theorem dX8_letterAt_12 : decode cX8_letterAt 12 = .ok (.iload_n 1, 1) := by decide +kernel
theorem dX8_letterAt_13 : decode cX8_letterAt 13 = .ok (.iaload, 1) := by decide +kernel
theorem dX8_letterAt_14 : decode cX8_letterAt 14 = .ok (.goto 4, 3) := by decide +kernel
theorem dX8_letterAt_17 : decode cX8_letterAt 17 = .ok (.iconst (-1), 1) := by decide +kernel
theorem dX8_letterAt_18 : decode cX8_letterAt 18 = .ok (.ireturn, 1) := by decide +kernel
set_option maxRecDepth 20000 in
theorem ggX8_advances_X8_letterAt : GoodIn wsX8_advances wsX8_letterAt := goodIn_r _ [9, 10, 11, 15, 16, 17, 18, 19, 20, 21, 22, 23, 24, 25, 26, 27, 28, 29, 30, 31, 32, 33, 34, 35, 36, 37, 38] (by decide +kernel) (by decide +kernel)
set_option maxRecDepth 20000 in
theorem gX8_advances_X8_letterAt : GoodIn wsX8_advances (wsV RX8 64 RX8 yX8_letterAt wsX8_letterAt) := goodIn_app (goodIn_of _ (by decide +kernel)) ggX8_advances_X8_letterAt
set_option maxRecDepth 20000 in
theorem ggX8_advances_X8_in : GoodIn wsX8_advances wsX8_in := goodIn_r _ [14] (by decide +kernel) (by decide +kernel)
set_option maxRecDepth 20000 in
theorem gX8_advances_X8_in : GoodIn wsX8_advances (va_wsS RX8 54 yX8_in wsX8_in) := goodIn_app (goodIn_of _ (by decide +kernel)) ggX8_advances_X8_in
theorem dX8_advances_0 : decode cX8_advances 0 = .ok (.aload_n 0, 1) := by decide +kernel
theorem dX8_advances_1 : decode cX8_advances 1 = .ok (.aload_n 0, 1) := by decide +kernel
theorem dX8_advances_2 : decode cX8_advances 2 = .ok (.getfield 61, 3) := by decide +kernel
theorem dX8_advances_5 : decode cX8_advances 5 = .ok (.invokevirtual 64, 3) := by decide +kernel
theorem dX8_advances_8 : decode cX8_advances 8 = .ok (.bipush 32, 2) := by decide +kernel
theorem dX8_advances_10 : decode cX8_advances 10 = .ok (.if_icmp .ne 16, 3) := by decide +kernel
theorem dX8_advances_13 : decode cX8_advances 13 = .ok (.aload_n 0, 1) := by decide +kernel
theorem dX8_advances_14 : decode cX8_advances 14 = .ok (.dup, 1) := by decide +kernel
theorem dX8_advances_15 : decode cX8_advances 15 = .ok (.getfield 61, 3) := by decide +kernel
theorem dX8_advances_18 : decode cX8_advances 18 = .ok (.iconst 1, 1) := by decide +kernel
theorem dX8_advances_19 : decode cX8_advances 19 = .ok (.iadd, 1) := by decide +kernel
theorem dX8_advances_20 : decode cX8_advances 20 = .ok (.putfield 61, 3) := by decide +kernel
theorem dX8_advances_23 : decode cX8_advances 23 = .ok (.goto (-23), 3) := by decide +kernel
theorem dX8_advances_26 : decode cX8_advances 26 = .ok (.aload_n 0, 1) := by decide +kernel
theorem dX8_advances_27 : decode cX8_advances 27 = .ok (.aload_n 0, 1) := by decide +kernel
theorem dX8_advances_28 : decode cX8_advances 28 = .ok (.getfield 61, 3) := by decide +kernel
theorem dX8_advances_31 : decode cX8_advances 31 = .ok (.putfield 68, 3) := by decide +kernel
theorem dX8_advances_34 : decode cX8_advances 34 = .ok (.aload_n 0, 1) := by decide +kernel
theorem dX8_advances_35 : decode cX8_advances 35 = .ok (.aload_n 0, 1) := by decide +kernel
theorem dX8_advances_36 : decode cX8_advances 36 = .ok (.getfield 61, 3) := by decide +kernel
theorem dX8_advances_39 : decode cX8_advances 39 = .ok (.invokevirtual 64, 3) := by decide +kernel
theorem dX8_advances_42 : decode cX8_advances 42 = .ok (.istore_n 1, 1) := by decide +kernel
theorem dX8_advances_43 : decode cX8_advances 43 = .ok (.iload_n 1, 1) := by decide +kernel
theorem dX8_advances_44 : decode cX8_advances 44 = .ok (.ifCond .ge 11, 3) := by decide +kernel
theorem dX8_advances_47 : decode cX8_advances 47 = .ok (.aload_n 0, 1) := by decide +kernel
theorem dX8_advances_48 : decode cX8_advances 48 = .ok (.iconst 0, 1) := by decide +kernel
theorem dX8_advances_49 : decode cX8_advances 49 = .ok (.putfield 71, 3) := by decide +kernel
theorem dX8_advances_52 : decode cX8_advances 52 = .ok (.goto 181, 3) := by decide +kernel
theorem dX8_advances_55 : decode cX8_advances 55 = .ok (.iload_n 1, 1) := by decide +kernel
theorem dX8_advances_56 : decode cX8_advances 56 = .ok (.bipush 48, 2) := by decide +kernel
theorem dX8_advances_58 : decode cX8_advances 58 = .ok (.bipush 57, 2) := by decide +kernel
theorem dX8_advances_60 : decode cX8_advances 60 = .ok (.invokestatic 54, 3) := by decide +kernel
theorem dX8_advances_63 : decode cX8_advances 63 = .ok (.ifCond .eq 118, 3) := by decide +kernel
theorem dX8_advances_66 : decode cX8_advances 66 = .ok (.aload_n 0, 1) := by decide +kernel
theorem dX8_advances_67 : decode cX8_advances 67 = .ok (.iconst 0, 1) := by decide +kernel
theorem dX8_advances_68 : decode cX8_advances 68 = .ok (.putfield 74, 3) := by decide +kernel
theorem dX8_advances_71 : decode cX8_advances 71 = .ok (.aload_n 0, 1) := by decide +kernel
theorem dX8_advances_72 : decode cX8_advances 72 = .ok (.aload_n 0, 1) := by decide +kernel
theorem dX8_advances_73 : decode cX8_advances 73 = .ok (.getfield 61, 3) := by decide +kernel
theorem dX8_advances_76 : decode cX8_advances 76 = .ok (.invokevirtual 64, 3) := by decide +kernel
theorem dX8_advances_79 : decode cX8_advances 79 = .ok (.bipush 48, 2) := by decide +kernel
theorem dX8_advances_81 : decode cX8_advances 81 = .ok (.bipush 57, 2) := by decide +kernel
theorem dX8_advances_83 : decode cX8_advances 83 = .ok (.invokestatic 54, 3) := by decide +kernel
theorem dX8_advances_86 : decode cX8_advances 86 = .ok (.ifCond .eq 55, 3) := by decide +kernel
theorem dX8_advances_89 : decode cX8_advances 89 = .ok (.aload_n 0, 1) := by decide +kernel
theorem dX8_advances_90 : decode cX8_advances 90 = .ok (.aload_n 0, 1) := by decide +kernel
theorem dX8_advances_91 : decode cX8_advances 91 = .ok (.getfield 74, 3) := by decide +kernel
theorem dX8_advances_94 : decode cX8_advances 94 = .ok (.bipush 31, 2) := by decide +kernel
theorem dX8_advances_96 : decode cX8_advances 96 = .ok (.if_icmp .le 10, 3) := by decide +kernel
theorem dX8_advances_99 : decode cX8_advances 99 = .ok (.aload_n 0, 1) := by decide +kernel
theorem dX8_advances_100 : decode cX8_advances 100 = .ok (.getfield 74, 3) := by decide +kernel
theorem dX8_advances_103 : decode cX8_advances 103 = .ok (.goto 22, 3) := by decide +kernel
theorem dX8_advances_106 : decode cX8_advances 106 = .ok (.bipush 10, 2) := by decide +kernel
theorem dX8_advances_108 : decode cX8_advances 108 = .ok (.aload_n 0, 1) := by decide +kernel
theorem dX8_advances_109 : decode cX8_advances 109 = .ok (.getfield 74, 3) := by decide +kernel
theorem dX8_advances_112 : decode cX8_advances 112 = .ok (.imul, 1) := by decide +kernel
theorem dX8_advances_113 : decode cX8_advances 113 = .ok (.aload_n 0, 1) := by decide +kernel
theorem dX8_advances_114 : decode cX8_advances 114 = .ok (.aload_n 0, 1) := by decide +kernel
theorem dX8_advances_115 : decode cX8_advances 115 = .ok (.getfield 61, 3) := by decide +kernel
theorem dX8_advances_118 : decode cX8_advances 118 = .ok (.invokevirtual 64, 3) := by decide +kernel
theorem dX8_advances_121 : decode cX8_advances 121 = .ok (.iadd, 1) := by decide +kernel
theorem dX8_advances_122 : decode cX8_advances 122 = .ok (.bipush 48, 2) := by decide +kernel
theorem dX8_advances_124 : decode cX8_advances 124 = .ok (.isub, 1) := by decide +kernel
theorem dX8_advances_125 : decode cX8_advances 125 = .ok (.putfield 74, 3) := by decide +kernel
theorem dX8_advances_128 : decode cX8_advances 128 = .ok (.aload_n 0, 1) := by decide +kernel
theorem dX8_advances_129 : decode cX8_advances 129 = .ok (.dup, 1) := by decide +kernel
theorem dX8_advances_130 : decode cX8_advances 130 = .ok (.getfield 61, 3) := by decide +kernel
theorem dX8_advances_133 : decode cX8_advances 133 = .ok (.iconst 1, 1) := by decide +kernel
theorem dX8_advances_134 : decode cX8_advances 134 = .ok (.iadd, 1) := by decide +kernel
theorem dX8_advances_135 : decode cX8_advances 135 = .ok (.putfield 61, 3) := by decide +kernel
theorem dX8_advances_138 : decode cX8_advances 138 = .ok (.goto (-67), 3) := by decide +kernel
theorem dX8_advances_141 : decode cX8_advances 141 = .ok (.aload_n 0, 1) := by decide +kernel
theorem dX8_advances_142 : decode cX8_advances 142 = .ok (.aload_n 0, 1) := by decide +kernel
theorem dX8_advances_143 : decode cX8_advances 143 = .ok (.getfield 74, 3) := by decide +kernel
theorem dX8_advances_146 : decode cX8_advances 146 = .ok (.bipush 31, 2) := by decide +kernel
theorem dX8_advances_148 : decode cX8_advances 148 = .ok (.if_icmp .gt 22, 3) := by decide +kernel
theorem dX8_advances_151 : decode cX8_advances 151 = .ok (.iload_n 1, 1) := by decide +kernel
theorem dX8_advances_152 : decode cX8_advances 152 = .ok (.bipush 48, 2) := by decide +kernel
theorem dX8_advances_154 : decode cX8_advances 154 = .ok (.if_icmp .ne 20, 3) := by decide +kernel
theorem dX8_advances_157 : decode cX8_advances 157 = .ok (.aload_n 0, 1) := by decide +kernel
theorem dX8_advances_158 : decode cX8_advances 158 = .ok (.getfield 61, 3) := by decide +kernel
theorem dX8_advances_161 : decode cX8_advances 161 = .ok (.aload_n 0, 1) := by decide +kernel
theorem dX8_advances_162 : decode cX8_advances 162 = .ok (.getfield 68, 3) := by decide +kernel
theorem dX8_advances_165 : decode cX8_advances 165 = .ok (.isub, 1) := by decide +kernel
theorem dX8_advances_166 : decode cX8_advances 166 = .ok (.iconst 1, 1) := by decide +kernel
theorem dX8_advances_167 : decode cX8_advances 167 = .ok (.if_icmp .le 7, 3) := by decide +kernel
theorem dX8_advances_170 : decode cX8_advances 170 = .ok (.iconst 4, 1) := by decide +kernel
theorem dX8_advances_171 : decode cX8_advances 171 = .ok (.goto 4, 3) := by decide +kernel
theorem dX8_advances_174 : decode cX8_advances 174 = .ok (.iconst 2, 1) := by decide +kernel
theorem dX8_advances_175 : decode cX8_advances 175 = .ok (.putfield 71, 3) := by decide +kernel
theorem dX8_advances_178 : decode cX8_advances 178 = .ok (.goto 55, 3) := by decide +kernel
theorem dX8_advances_181 : decode cX8_advances 181 = .ok (.aload_n 0, 1) := by decide +kernel
theorem dX8_advances_182 : decode cX8_advances 182 = .ok (.dup, 1) := by decide +kernel
theorem dX8_advances_183 : decode cX8_advances 183 = .ok (.getfield 61, 3) := by decide +kernel
theorem dX8_advances_186 : decode cX8_advances 186 = .ok (.iconst 1, 1) := by decide +kernel
theorem dX8_advances_187 : decode cX8_advances 187 = .ok (.iadd, 1) := by decide +kernel
theorem dX8_advances_188 : decode cX8_advances 188 = .ok (.putfield 61, 3) := by decide +kernel
theorem dX8_advances_191 : decode cX8_advances 191 = .ok (.aload_n 0, 1) := by decide +kernel
theorem dX8_advances_192 : decode cX8_advances 192 = .ok (.iload_n 1, 1) := by decide +kernel
theorem dX8_advances_193 : decode cX8_advances 193 = .ok (.putfield 74, 3) := by decide +kernel
theorem dX8_advances_196 : decode cX8_advances 196 = .ok (.aload_n 0, 1) := by decide +kernel
theorem dX8_advances_197 : decode cX8_advances 197 = .ok (.iload_n 1, 1) := by decide +kernel
theorem dX8_advances_198 : decode cX8_advances 198 = .ok (.bipush 59, 2) := by decide +kernel
theorem dX8_advances_200 : decode cX8_advances 200 = .ok (.if_icmp .ne 7, 3) := by decide +kernel
theorem dX8_advances_203 : decode cX8_advances 203 = .ok (.iconst 3, 1) := by decide +kernel
theorem dX8_advances_204 : decode cX8_advances 204 = .ok (.goto 26, 3) := by decide +kernel
theorem dX8_advances_207 : decode cX8_advances 207 = .ok (.iload_n 1, 1) := by decide +kernel
theorem dX8_advances_208 : decode cX8_advances 208 = .ok (.bipush 111, 2) := by decide +kernel
theorem dX8_advances_210 : decode cX8_advances 210 = .ok (.if_icmp .eq 15, 3) := by decide +kernel
theorem dX8_advances_213 : decode cX8_advances 213 = .ok (.iload_n 1, 1) := by decide +kernel
theorem dX8_advances_214 : decode cX8_advances 214 = .ok (.bipush 116, 2) := by decide +kernel
theorem dX8_advances_216 : decode cX8_advances 216 = .ok (.if_icmp .eq 9, 3) := by decide +kernel
theorem dX8_advances_219 : decode cX8_advances 219 = .ok (.iload_n 1, 1) := by decide +kernel
theorem dX8_advances_220 : decode cX8_advances 220 = .ok (.bipush 119, 2) := by decide +kernel
theorem dX8_advances_222 : decode cX8_advances 222 = .ok (.if_icmp .ne 7, 3) := by decide +kernel
theorem dX8_advances_225 : decode cX8_advances 225 = .ok (.iconst 1, 1) := by decide +kernel
theorem dX8_advances_226 : decode cX8_advances 226 = .ok (.goto 4, 3) := by decide +kernel
theorem dX8_advances_229 : decode cX8_advances 229 = .ok (.iconst 4, 1) := by decide +kernel
theorem dX8_advances_230 : decode cX8_advances 230 = .ok (.putfield 71, 3) := by decide +kernel
theorem dX8_advances_233 : decode cX8_advances 233 = .ok (.return_, 1) := by decide +kernel
theorem dX8_isWell_0 : decode cX8_isWell 0 = .ok (.aload_n 0, 1) := by decide +kernel
theorem dX8_isWell_1 : decode cX8_isWell 1 = .ok (.getfield 77, 3) := by decide +kernel
theorem dX8_isWell_4 : decode cX8_isWell 4 = .ok (.ifCond .ge 7, 3) := by decide +kernel
theorem dX8_isWell_7 : decode cX8_isWell 7 = .ok (.iconst 1, 1) := by decide +kernel
theorem dX8_isWell_8 : decode cX8_isWell 8 = .ok (.goto 4, 3) := by decide +kernel
theorem dX8_isWell_11 : decode cX8_isWell 11 = .ok (.iconst 0, 1) := by decide +kernel
theorem dX8_isWell_12 : decode cX8_isWell 12 = .ok (.ireturn, 1) := by decide +kernel
set_option maxRecDepth 20000 in
theorem ggX8_takes_X8_isWell : GoodIn wsX8_takes wsX8_isWell := goodIn_r _ [8, 2, 24, 25, 26, 27, 28, 29, 30, 31, 32, 33, 34, 35, 36, 37, 38, 39, 40, 41, 42, 43, 44, 45, 46, 47] (by decide +kernel) (by decide +kernel)
set_option maxRecDepth 20000 in
theorem gX8_takes_X8_isWell : GoodIn wsX8_takes (wsV RX8 80 RX8 yX8_isWell wsX8_isWell) := goodIn_app (goodIn_of _ (by decide +kernel)) ggX8_takes_X8_isWell
set_option maxRecDepth 20000 in
theorem ggX8_takes_X8_advances : GoodIn wsX8_takes wsX8_advances := goodIn_r _ [12, 13, 1, 14, 3, 15, 16, 17, 7, 18, 19, 20, 21, 22, 23, 24, 25, 26, 27, 28, 29, 30, 31, 32, 33, 34, 35, 36, 37, 38, 39, 40, 41, 42, 43, 44, 45, 46, 47] (by decide +kernel) (by decide +kernel)
set_option maxRecDepth 20000 in
theorem gX8_takes_X8_advances : GoodIn wsX8_takes (wsV RX8 84 RX8 yX8_advances wsX8_advances) := goodIn_app (goodIn_of _ (by decide +kernel)) ggX8_takes_X8_advances
theorem dX8_takes_0 : decode cX8_takes 0 = .ok (.aload_n 0, 1) := by decide +kernel
theorem dX8_takes_1 : decode cX8_takes 1 = .ok (.invokevirtual 80, 3) := by decide +kernel
theorem dX8_takes_4 : decode cX8_takes 4 = .ok (.ifCond .ne 5, 3) := by decide +kernel
theorem dX8_takes_7 : decode cX8_takes 7 = .ok (.iconst 0, 1) := by decide +kernel
theorem dX8_takes_8 : decode cX8_takes 8 = .ok (.ireturn, 1) := by decide +kernel
theorem dX8_takes_9 : decode cX8_takes 9 = .ok (.iload_n 1, 1) := by decide +kernel
theorem dX8_takes_10 : decode cX8_takes 10 = .ok (.ifCond .ne 13, 3) := by decide +kernel
theorem dX8_takes_13 : decode cX8_takes 13 = .ok (.aload_n 0, 1) := by decide +kernel
theorem dX8_takes_14 : decode cX8_takes 14 = .ok (.aload_n 0, 1) := by decide +kernel
theorem dX8_takes_15 : decode cX8_takes 15 = .ok (.getfield 68, 3) := by decide +kernel
theorem dX8_takes_18 : decode cX8_takes 18 = .ok (.putfield 77, 3) := by decide +kernel
theorem dX8_takes_21 : decode cX8_takes 21 = .ok (.iconst 0, 1) := by decide +kernel
theorem dX8_takes_22 : decode cX8_takes 22 = .ok (.ireturn, 1) := by decide +kernel
theorem dX8_takes_23 : decode cX8_takes 23 = .ok (.aload_n 0, 1) := by decide +kernel
theorem dX8_takes_24 : decode cX8_takes 24 = .ok (.getfield 74, 3) := by decide +kernel
theorem dX8_takes_27 : decode cX8_takes 27 = .ok (.istore_n 2, 1) := by decide +kernel
theorem dX8_takes_28 : decode cX8_takes 28 = .ok (.aload_n 0, 1) := by decide +kernel
theorem dX8_takes_29 : decode cX8_takes 29 = .ok (.invokevirtual 84, 3) := by decide +kernel
theorem dX8_takes_32 : decode cX8_takes 32 = .ok (.iload_n 2, 1) := by decide +kernel
theorem dX8_takes_33 : decode cX8_takes 33 = .ok (.ireturn, 1) := by decide +kernel
set_option maxRecDepth 20000 in
theorem ggX8_number_X8_in : GoodIn wsX8_number wsX8_in := goodIn_r _ [6] (by decide +kernel) (by decide +kernel)
set_option maxRecDepth 20000 in
theorem gX8_number_X8_in : GoodIn wsX8_number (va_wsS RX8 54 yX8_in wsX8_in) := goodIn_app (goodIn_of _ (by decide +kernel)) ggX8_number_X8_in
set_option maxRecDepth 20000 in
theorem ggX8_number_X8_takes : GoodIn wsX8_number wsX8_takes := goodIn_r _ [10, 11, 12, 2, 13, 14, 15, 5, 16, 17, 18, 19, 20, 21, 1, 22, 23, 24, 25, 26, 27, 3, 4, 6, 28, 29, 30, 31, 32, 33, 34, 35, 36, 37, 38, 39, 40, 41, 42, 43, 44, 45, 46, 47, 48, 49, 50, 51] (by decide +kernel) (by decide +kernel)
set_option maxRecDepth 20000 in
theorem gX8_number_X8_takes : GoodIn wsX8_number (wsV RX8 87 RX8 yX8_takes wsX8_takes) := goodIn_app (goodIn_of _ (by decide +kernel)) ggX8_number_X8_takes
theorem dX8_number_0 : decode cX8_number 0 = .ok (.aload_n 0, 1) := by decide +kernel
theorem dX8_number_1 : decode cX8_number 1 = .ok (.aload_n 0, 1) := by decide +kernel
theorem dX8_number_2 : decode cX8_number 2 = .ok (.getfield 71, 3) := by decide +kernel
theorem dX8_number_5 : decode cX8_number 5 = .ok (.iconst 2, 1) := by decide +kernel
theorem dX8_number_6 : decode cX8_number 6 = .ok (.if_icmp .ne 19, 3) := by decide +kernel
theorem dX8_number_9 : decode cX8_number 9 = .ok (.aload_n 0, 1) := by decide +kernel
theorem dX8_number_10 : decode cX8_number 10 = .ok (.getfield 74, 3) := by decide +kernel
theorem dX8_number_13 : decode cX8_number 13 = .ok (.iload_n 1, 1) := by decide +kernel
theorem dX8_number_14 : decode cX8_number 14 = .ok (.iload_n 2, 1) := by decide +kernel
theorem dX8_number_15 : decode cX8_number 15 = .ok (.invokestatic 54, 3) := by decide +kernel
theorem dX8_number_18 : decode cX8_number 18 = .ok (.ifCond .eq 7, 3) := by decide +kernel
theorem dX8_number_21 : decode cX8_number 21 = .ok (.iconst 1, 1) := by decide +kernel
theorem dX8_number_22 : decode cX8_number 22 = .ok (.goto 4, 3) := by decide +kernel
theorem dX8_number_25 : decode cX8_number 25 = .ok (.iconst 0, 1) := by decide +kernel
theorem dX8_number_26 : decode cX8_number 26 = .ok (.invokevirtual 87, 3) := by decide +kernel
theorem dX8_number_29 : decode cX8_number 29 = .ok (.ireturn, 1) := by decide +kernel
set_option maxRecDepth 20000 in
theorem ggX8_readsItem_X8_number : GoodIn wsX8_readsItem wsX8_number := goodIn_r _ [11, 12, 13, 14, 15, 10, 16, 17, 18, 19, 20, 21, 22, 23, 24, 25, 26, 27, 28, 29, 30, 31, 32, 33, 34, 35, 36, 37, 38, 39, 40, 41, 42, 43, 44, 45, 46, 47, 48, 49, 50, 51, 52, 53, 54, 55, 56, 57, 58, 59, 60, 61] (by decide +kernel) (by decide +kernel)
set_option maxRecDepth 20000 in
theorem gX8_readsItem_X8_number : GoodIn wsX8_readsItem (wsV RX8 91 RX8 yX8_number wsX8_number) := goodIn_app (goodIn_of _ (by decide +kernel)) ggX8_readsItem_X8_number
theorem dX8_readsItem_0 : decode cX8_readsItem 0 = .ok (.iload_n 1, 1) := by decide +kernel
theorem dX8_readsItem_1 : decode cX8_readsItem 1 = .ok (.bipush 111, 2) := by decide +kernel
theorem dX8_readsItem_3 : decode cX8_readsItem 3 = .ok (.if_icmp .ne 18, 3) := by decide +kernel
theorem dX8_readsItem_6 : decode cX8_readsItem 6 = .ok (.aload_n 0, 1) := by decide +kernel
theorem dX8_readsItem_7 : decode cX8_readsItem 7 = .ok (.getfield 13, 3) := by decide +kernel
theorem dX8_readsItem_10 : decode cX8_readsItem 10 = .ok (.iconst 4, 1) := by decide +kernel
theorem dX8_readsItem_11 : decode cX8_readsItem 11 = .ok (.aload_n 0, 1) := by decide +kernel
theorem dX8_readsItem_12 : decode cX8_readsItem 12 = .ok (.iconst 1, 1) := by decide +kernel
theorem dX8_readsItem_13 : decode cX8_readsItem 13 = .ok (.iconst 5, 1) := by decide +kernel
theorem dX8_readsItem_14 : decode cX8_readsItem 14 = .ok (.invokevirtual 91, 3) := by decide +kernel
theorem dX8_readsItem_17 : decode cX8_readsItem 17 = .ok (.iastore, 1) := by decide +kernel
theorem dX8_readsItem_18 : decode cX8_readsItem 18 = .ok (.goto 113, 3) := by decide +kernel
theorem dX8_readsItem_21 : decode cX8_readsItem 21 = .ok (.iload_n 1, 1) := by decide +kernel
theorem dX8_readsItem_22 : decode cX8_readsItem 22 = .ok (.bipush 116, 2) := by decide +kernel
theorem dX8_readsItem_24 : decode cX8_readsItem 24 = .ok (.if_icmp .ne 89, 3) := by decide +kernel
theorem dX8_readsItem_27 : decode cX8_readsItem 27 = .ok (.aload_n 0, 1) := by decide +kernel
theorem dX8_readsItem_28 : decode cX8_readsItem 28 = .ok (.getfield 13, 3) := by decide +kernel
theorem dX8_readsItem_31 : decode cX8_readsItem 31 = .ok (.iconst 3, 1) := by decide +kernel
theorem dX8_readsItem_32 : decode cX8_readsItem 32 = .ok (.iaload, 1) := by decide +kernel
theorem dX8_readsItem_33 : decode cX8_readsItem 33 = .ok (.istore_n 2, 1) := by decide +kernel
theorem dX8_readsItem_34 : decode cX8_readsItem 34 = .ok (.aload_n 0, 1) := by decide +kernel
theorem dX8_readsItem_35 : decode cX8_readsItem 35 = .ok (.getfield 16, 3) := by decide +kernel
theorem dX8_readsItem_38 : decode cX8_readsItem 38 = .ok (.bipush 7, 2) := by decide +kernel
theorem dX8_readsItem_40 : decode cX8_readsItem 40 = .ok (.iload_n 2, 1) := by decide +kernel
theorem dX8_readsItem_41 : decode cX8_readsItem 41 = .ok (.iadd, 1) := by decide +kernel
theorem dX8_readsItem_42 : decode cX8_readsItem 42 = .ok (.aload_n 0, 1) := by decide +kernel
theorem dX8_readsItem_43 : decode cX8_readsItem 43 = .ok (.iconst 0, 1) := by decide +kernel
theorem dX8_readsItem_44 : decode cX8_readsItem 44 = .ok (.iconst 3, 1) := by decide +kernel
theorem dX8_readsItem_45 : decode cX8_readsItem 45 = .ok (.invokevirtual 91, 3) := by decide +kernel
theorem dX8_readsItem_48 : decode cX8_readsItem 48 = .ok (.iastore, 1) := by decide +kernel
theorem dX8_readsItem_49 : decode cX8_readsItem 49 = .ok (.aload_n 0, 1) := by decide +kernel
theorem dX8_readsItem_50 : decode cX8_readsItem 50 = .ok (.getfield 19, 3) := by decide +kernel
theorem dX8_readsItem_53 : decode cX8_readsItem 53 = .ok (.bipush 7, 2) := by decide +kernel
theorem dX8_readsItem_55 : decode cX8_readsItem 55 = .ok (.iload_n 2, 1) := by decide +kernel
theorem dX8_readsItem_56 : decode cX8_readsItem 56 = .ok (.iadd, 1) := by decide +kernel
theorem dX8_readsItem_57 : decode cX8_readsItem 57 = .ok (.aload_n 0, 1) := by decide +kernel
theorem dX8_readsItem_58 : decode cX8_readsItem 58 = .ok (.iconst 1, 1) := by decide +kernel
theorem dX8_readsItem_59 : decode cX8_readsItem 59 = .ok (.bipush 9, 2) := by decide +kernel
theorem dX8_readsItem_61 : decode cX8_readsItem 61 = .ok (.invokevirtual 91, 3) := by decide +kernel
theorem dX8_readsItem_64 : decode cX8_readsItem 64 = .ok (.iastore, 1) := by decide +kernel
theorem dX8_readsItem_65 : decode cX8_readsItem 65 = .ok (.aload_n 0, 1) := by decide +kernel
theorem dX8_readsItem_66 : decode cX8_readsItem 66 = .ok (.getfield 22, 3) := by decide +kernel
theorem dX8_readsItem_69 : decode cX8_readsItem 69 = .ok (.bipush 7, 2) := by decide +kernel
theorem dX8_readsItem_71 : decode cX8_readsItem 71 = .ok (.iload_n 2, 1) := by decide +kernel
theorem dX8_readsItem_72 : decode cX8_readsItem 72 = .ok (.iadd, 1) := by decide +kernel
theorem dX8_readsItem_73 : decode cX8_readsItem 73 = .ok (.aload_n 0, 1) := by decide +kernel
theorem dX8_readsItem_74 : decode cX8_readsItem 74 = .ok (.iconst 0, 1) := by decide +kernel
theorem dX8_readsItem_75 : decode cX8_readsItem 75 = .ok (.bipush 31, 2) := by decide +kernel
theorem dX8_readsItem_77 : decode cX8_readsItem 77 = .ok (.invokevirtual 91, 3) := by decide +kernel
theorem dX8_readsItem_80 : decode cX8_readsItem 80 = .ok (.iastore, 1) := by decide +kernel
theorem dX8_readsItem_81 : decode cX8_readsItem 81 = .ok (.aload_n 0, 1) := by decide +kernel
theorem dX8_readsItem_82 : decode cX8_readsItem 82 = .ok (.getfield 25, 3) := by decide +kernel
theorem dX8_readsItem_85 : decode cX8_readsItem 85 = .ok (.iload_n 2, 1) := by decide +kernel
theorem dX8_readsItem_86 : decode cX8_readsItem 86 = .ok (.aload_n 0, 1) := by decide +kernel
theorem dX8_readsItem_87 : decode cX8_readsItem 87 = .ok (.iconst 0, 1) := by decide +kernel
theorem dX8_readsItem_88 : decode cX8_readsItem 88 = .ok (.aload_n 0, 1) := by decide +kernel
theorem dX8_readsItem_89 : decode cX8_readsItem 89 = .ok (.getfield 13, 3) := by decide +kernel
theorem dX8_readsItem_92 : decode cX8_readsItem 92 = .ok (.iconst 4, 1) := by decide +kernel
theorem dX8_readsItem_93 : decode cX8_readsItem 93 = .ok (.iaload, 1) := by decide +kernel
theorem dX8_readsItem_94 : decode cX8_readsItem 94 = .ok (.iconst 1, 1) := by decide +kernel
theorem dX8_readsItem_95 : decode cX8_readsItem 95 = .ok (.isub, 1) := by decide +kernel
theorem dX8_readsItem_96 : decode cX8_readsItem 96 = .ok (.invokevirtual 91, 3) := by decide +kernel
theorem dX8_readsItem_99 : decode cX8_readsItem 99 = .ok (.iastore, 1) := by decide +kernel
theorem dX8_readsItem_100 : decode cX8_readsItem 100 = .ok (.aload_n 0, 1) := by decide +kernel
theorem dX8_readsItem_101 : decode cX8_readsItem 101 = .ok (.getfield 13, 3) := by decide +kernel
theorem dX8_readsItem_104 : decode cX8_readsItem 104 = .ok (.iconst 3, 1) := by decide +kernel
theorem dX8_readsItem_105 : decode cX8_readsItem 105 = .ok (.dup2, 1) := by decide +kernel
theorem dX8_readsItem_106 : decode cX8_readsItem 106 = .ok (.iaload, 1) := by decide +kernel
theorem dX8_readsItem_107 : decode cX8_readsItem 107 = .ok (.iconst 1, 1) := by decide +kernel
theorem dX8_readsItem_108 : decode cX8_readsItem 108 = .ok (.iadd, 1) := by decide +kernel
theorem dX8_readsItem_109 : decode cX8_readsItem 109 = .ok (.iastore, 1) := by decide +kernel
theorem dX8_readsItem_110 : decode cX8_readsItem 110 = .ok (.goto 21, 3) := by decide +kernel
theorem dX8_readsItem_113 : decode cX8_readsItem 113 = .ok (.aload_n 0, 1) := by decide +kernel
theorem dX8_readsItem_114 : decode cX8_readsItem 114 = .ok (.getfield 13, 3) := by decide +kernel
theorem dX8_readsItem_117 : decode cX8_readsItem 117 = .ok (.iconst 5, 1) := by decide +kernel
theorem dX8_readsItem_118 : decode cX8_readsItem 118 = .ok (.aload_n 0, 1) := by decide +kernel
theorem dX8_readsItem_119 : decode cX8_readsItem 119 = .ok (.iconst 0, 1) := by decide +kernel
theorem dX8_readsItem_120 : decode cX8_readsItem 120 = .ok (.bipush 9, 2) := by decide +kernel
theorem dX8_readsItem_122 : decode cX8_readsItem 122 = .ok (.invokevirtual 91, 3) := by decide +kernel
theorem dX8_readsItem_125 : decode cX8_readsItem 125 = .ok (.iastore, 1) := by decide +kernel
theorem dX8_readsItem_126 : decode cX8_readsItem 126 = .ok (.aload_n 0, 1) := by decide +kernel
theorem dX8_readsItem_127 : decode cX8_readsItem 127 = .ok (.iconst 1, 1) := by decide +kernel
theorem dX8_readsItem_128 : decode cX8_readsItem 128 = .ok (.putfield 95, 3) := by decide +kernel
theorem dX8_readsItem_131 : decode cX8_readsItem 131 = .ok (.return_, 1) := by decide +kernel
set_option maxRecDepth 20000 in
theorem ggX8_council_X8_advances : GoodIn wsX8_council wsX8_advances := goodIn_r _ [12, 3, 13, 6, 7, 14, 15, 16, 11, 17, 18, 19, 20, 21, 22, 51, 52, 53, 54, 55, 56, 57, 58, 59, 60, 61, 62, 63, 64, 65, 66, 67, 68, 69, 70, 71, 72, 73, 74] (by decide +kernel) (by decide +kernel)
set_option maxRecDepth 20000 in
theorem gX8_council_X8_advances : GoodIn wsX8_council (wsV RX8 84 RX8 yX8_advances wsX8_advances) := goodIn_app (goodIn_of _ (by decide +kernel)) ggX8_council_X8_advances
set_option maxRecDepth 20000 in
theorem ggX8_council_X8_isWell : GoodIn wsX8_council wsX8_isWell := goodIn_r _ [26, 2, 51, 52, 53, 54, 55, 56, 57, 58, 59, 60, 61, 62, 63, 64, 65, 66, 67, 68, 69, 70, 71, 72, 73, 74] (by decide +kernel) (by decide +kernel)
set_option maxRecDepth 20000 in
theorem gX8_council_X8_isWell : GoodIn wsX8_council (wsV RX8 80 RX8 yX8_isWell wsX8_isWell) := goodIn_app (goodIn_of _ (by decide +kernel)) ggX8_council_X8_isWell
set_option maxRecDepth 20000 in
theorem ggX8_council_X8_takes : GoodIn wsX8_council wsX8_takes := goodIn_r _ [30, 13, 2, 7, 23, 24, 25, 11, 26, 8, 9, 10, 12, 3, 6, 14, 15, 16, 17, 18, 19, 20, 21, 22, 51, 52, 53, 54, 55, 56, 57, 58, 59, 60, 61, 62, 63, 64, 65, 66, 67, 68, 69, 70, 71, 72, 73, 74] (by decide +kernel) (by decide +kernel)
set_option maxRecDepth 20000 in
theorem gX8_council_X8_takes : GoodIn wsX8_council (wsV RX8 87 RX8 yX8_takes wsX8_takes) := goodIn_app (goodIn_of _ (by decide +kernel)) ggX8_council_X8_takes
set_option maxRecDepth 20000 in
theorem ggX8_council_X8_readsItem : GoodIn wsX8_council wsX8_readsItem := goodIn_r _ [34, 4, 35, 36, 37, 38, 5, 39, 40, 41, 11, 42, 6, 7, 20, 21, 22, 27, 28, 29, 30, 13, 2, 23, 24, 25, 26, 8, 9, 10, 12, 3, 14, 15, 16, 17, 18, 19, 51, 52, 53, 54, 55, 56, 57, 58, 59, 60, 61, 62, 63, 64, 65, 66, 67, 68, 69, 70, 71, 72, 73, 74] (by decide +kernel) (by decide +kernel)
set_option maxRecDepth 20000 in
theorem gX8_council_X8_readsItem : GoodIn wsX8_council (wsV RX8 99 RX8 yX8_readsItem wsX8_readsItem) := goodIn_app (goodIn_of _ (by decide +kernel)) ggX8_council_X8_readsItem
set_option maxRecDepth 20000 in
theorem ggX8_council_X8_settles : GoodIn wsX8_council wsX8_settles := goodIn_r _ [46, 4, 47, 35, 36, 37, 38, 18, 48, 49, 50, 51, 52, 53, 54, 55, 56, 57, 58, 59, 60, 61, 62, 63, 64, 65, 66, 67, 68, 69, 70, 71, 72, 73, 74] (by decide +kernel) (by decide +kernel)
set_option maxRecDepth 20000 in
theorem gX8_council_X8_settles : GoodIn wsX8_council (wsV RX8 103 RX8 yX8_settles wsX8_settles) := goodIn_app (goodIn_of _ (by decide +kernel)) ggX8_council_X8_settles
theorem dX8_council_0 : decode cX8_council 0 = .ok (.aload_n 0, 1) := by decide +kernel
theorem dX8_council_1 : decode cX8_council 1 = .ok (.iconst 0, 1) := by decide +kernel
theorem dX8_council_2 : decode cX8_council 2 = .ok (.putfield 50, 3) := by decide +kernel
theorem dX8_council_5 : decode cX8_council 5 = .ok (.aload_n 0, 1) := by decide +kernel
theorem dX8_council_6 : decode cX8_council 6 = .ok (.iconst (-1), 1) := by decide +kernel
theorem dX8_council_7 : decode cX8_council 7 = .ok (.putfield 77, 3) := by decide +kernel
theorem dX8_council_10 : decode cX8_council 10 = .ok (.aload_n 0, 1) := by decide +kernel
theorem dX8_council_11 : decode cX8_council 11 = .ok (.iconst 0, 1) := by decide +kernel
theorem dX8_council_12 : decode cX8_council 12 = .ok (.putfield 61, 3) := by decide +kernel
theorem dX8_council_15 : decode cX8_council 15 = .ok (.iconst 0, 1) := by decide +kernel
theorem dX8_council_16 : decode cX8_council 16 = .ok (.istore_n 1, 1) := by decide +kernel
theorem dX8_council_17 : decode cX8_council 17 = .ok (.aload_n 0, 1) := by decide +kernel
theorem dX8_council_18 : decode cX8_council 18 = .ok (.getfield 13, 3) := by decide +kernel
theorem dX8_council_21 : decode cX8_council 21 = .ok (.iconst 3, 1) := by decide +kernel
theorem dX8_council_22 : decode cX8_council 22 = .ok (.iconst 0, 1) := by decide +kernel
theorem dX8_council_23 : decode cX8_council 23 = .ok (.iastore, 1) := by decide +kernel
theorem dX8_council_24 : decode cX8_council 24 = .ok (.aload_n 0, 1) := by decide +kernel
theorem dX8_council_25 : decode cX8_council 25 = .ok (.getfield 13, 3) := by decide +kernel
theorem dX8_council_28 : decode cX8_council 28 = .ok (.iconst 4, 1) := by decide +kernel
theorem dX8_council_29 : decode cX8_council 29 = .ok (.iconst 3, 1) := by decide +kernel
theorem dX8_council_30 : decode cX8_council 30 = .ok (.iastore, 1) := by decide +kernel
theorem dX8_council_31 : decode cX8_council 31 = .ok (.aload_n 0, 1) := by decide +kernel
theorem dX8_council_32 : decode cX8_council 32 = .ok (.getfield 13, 3) := by decide +kernel
theorem dX8_council_35 : decode cX8_council 35 = .ok (.iconst 5, 1) := by decide +kernel
theorem dX8_council_36 : decode cX8_council 36 = .ok (.iconst 2, 1) := by decide +kernel
theorem dX8_council_37 : decode cX8_council 37 = .ok (.iastore, 1) := by decide +kernel
theorem dX8_council_38 : decode cX8_council 38 = .ok (.aload_n 0, 1) := by decide +kernel
theorem dX8_council_39 : decode cX8_council 39 = .ok (.iconst 0, 1) := by decide +kernel
theorem dX8_council_40 : decode cX8_council 40 = .ok (.putfield 95, 3) := by decide +kernel
theorem dX8_council_43 : decode cX8_council 43 = .ok (.aload_n 0, 1) := by decide +kernel
theorem dX8_council_44 : decode cX8_council 44 = .ok (.invokevirtual 84, 3) := by decide +kernel
theorem dX8_council_47 : decode cX8_council 47 = .ok (.aload_n 0, 1) := by decide +kernel
theorem dX8_council_48 : decode cX8_council 48 = .ok (.invokevirtual 80, 3) := by decide +kernel
theorem dX8_council_51 : decode cX8_council 51 = .ok (.ifCond .eq 110, 3) := by decide +kernel
theorem dX8_council_54 : decode cX8_council 54 = .ok (.aload_n 0, 1) := by decide +kernel
theorem dX8_council_55 : decode cX8_council 55 = .ok (.getfield 71, 3) := by decide +kernel
theorem dX8_council_58 : decode cX8_council 58 = .ok (.ifCond .eq 103, 3) := by decide +kernel
theorem dX8_council_61 : decode cX8_council 61 = .ok (.aload_n 0, 1) := by decide +kernel
theorem dX8_council_62 : decode cX8_council 62 = .ok (.aload_n 0, 1) := by decide +kernel
theorem dX8_council_63 : decode cX8_council 63 = .ok (.getfield 71, 3) := by decide +kernel
theorem dX8_council_66 : decode cX8_council 66 = .ok (.iconst 1, 1) := by decide +kernel
theorem dX8_council_67 : decode cX8_council 67 = .ok (.if_icmp .ne 53, 3) := by decide +kernel
theorem dX8_council_70 : decode cX8_council 70 = .ok (.aload_n 0, 1) := by decide +kernel
theorem dX8_council_71 : decode cX8_council 71 = .ok (.getfield 74, 3) := by decide +kernel
theorem dX8_council_74 : decode cX8_council 74 = .ok (.bipush 111, 2) := by decide +kernel
theorem dX8_council_76 : decode cX8_council 76 = .ok (.if_icmp .ne 10, 3) := by decide +kernel
theorem dX8_council_79 : decode cX8_council 79 = .ok (.iload_n 1, 1) := by decide +kernel
theorem dX8_council_80 : decode cX8_council 80 = .ok (.ifCond .ne 40, 3) := by decide +kernel
theorem dX8_council_83 : decode cX8_council 83 = .ok (.goto 33, 3) := by decide +kernel
theorem dX8_council_86 : decode cX8_council 86 = .ok (.aload_n 0, 1) := by decide +kernel
theorem dX8_council_87 : decode cX8_council 87 = .ok (.getfield 74, 3) := by decide +kernel
theorem dX8_council_90 : decode cX8_council 90 = .ok (.bipush 116, 2) := by decide +kernel
theorem dX8_council_92 : decode cX8_council 92 = .ok (.if_icmp .ne 17, 3) := by decide +kernel
theorem dX8_council_95 : decode cX8_council 95 = .ok (.aload_n 0, 1) := by decide +kernel
theorem dX8_council_96 : decode cX8_council 96 = .ok (.getfield 13, 3) := by decide +kernel
theorem dX8_council_99 : decode cX8_council 99 = .ok (.iconst 3, 1) := by decide +kernel
theorem dX8_council_100 : decode cX8_council 100 = .ok (.iaload, 1) := by decide +kernel
theorem dX8_council_101 : decode cX8_council 101 = .ok (.bipush 7, 2) := by decide +kernel
theorem dX8_council_103 : decode cX8_council 103 = .ok (.if_icmp .ge 17, 3) := by decide +kernel
theorem dX8_council_106 : decode cX8_council 106 = .ok (.goto 10, 3) := by decide +kernel
theorem dX8_council_109 : decode cX8_council 109 = .ok (.aload_n 0, 1) := by decide +kernel
theorem dX8_council_110 : decode cX8_council 110 = .ok (.getfield 95, 3) := by decide +kernel
theorem dX8_council_113 : decode cX8_council 113 = .ok (.ifCond .ne 7, 3) := by decide +kernel
theorem dX8_council_116 : decode cX8_council 116 = .ok (.iconst 1, 1) := by decide +kernel
theorem dX8_council_117 : decode cX8_council 117 = .ok (.goto 4, 3) := by decide +kernel
theorem dX8_council_120 : decode cX8_council 120 = .ok (.iconst 0, 1) := by decide +kernel
theorem dX8_council_121 : decode cX8_council 121 = .ok (.invokevirtual 87, 3) := by decide +kernel
theorem dX8_council_124 : decode cX8_council 124 = .ok (.istore_n 2, 1) := by decide +kernel
theorem dX8_council_125 : decode cX8_council 125 = .ok (.aload_n 0, 1) := by decide +kernel
theorem dX8_council_126 : decode cX8_council 126 = .ok (.invokevirtual 80, 3) := by decide +kernel
theorem dX8_council_129 : decode cX8_council 129 = .ok (.ifCond .eq 8, 3) := by decide +kernel
theorem dX8_council_132 : decode cX8_council 132 = .ok (.aload_n 0, 1) := by decide +kernel
theorem dX8_council_133 : decode cX8_council 133 = .ok (.iload_n 2, 1) := by decide +kernel
theorem dX8_council_134 : decode cX8_council 134 = .ok (.invokevirtual 99, 3) := by decide +kernel
theorem dX8_council_137 : decode cX8_council 137 = .ok (.aload_n 0, 1) := by decide +kernel
theorem dX8_council_138 : decode cX8_council 138 = .ok (.aload_n 0, 1) := by decide +kernel
theorem dX8_council_139 : decode cX8_council 139 = .ok (.getfield 71, 3) := by decide +kernel
theorem dX8_council_142 : decode cX8_council 142 = .ok (.iconst 3, 1) := by decide +kernel
theorem dX8_council_143 : decode cX8_council 143 = .ok (.if_icmp .ne 7, 3) := by decide +kernel
theorem dX8_council_146 : decode cX8_council 146 = .ok (.iconst 1, 1) := by decide +kernel
theorem dX8_council_147 : decode cX8_council 147 = .ok (.goto 4, 3) := by decide +kernel
theorem dX8_council_150 : decode cX8_council 150 = .ok (.iconst 0, 1) := by decide +kernel
theorem dX8_council_151 : decode cX8_council 151 = .ok (.invokevirtual 87, 3) := by decide +kernel
theorem dX8_council_154 : decode cX8_council 154 = .ok (.pop, 1) := by decide +kernel
theorem dX8_council_155 : decode cX8_council 155 = .ok (.iinc 1 1, 3) := by decide +kernel
theorem dX8_council_158 : decode cX8_council 158 = .ok (.goto (-111), 3) := by decide +kernel
theorem dX8_council_161 : decode cX8_council 161 = .ok (.aload_n 0, 1) := by decide +kernel
theorem dX8_council_162 : decode cX8_council 162 = .ok (.invokevirtual 80, 3) := by decide +kernel
theorem dX8_council_165 : decode cX8_council 165 = .ok (.ifCond .ne 11, 3) := by decide +kernel
theorem dX8_council_168 : decode cX8_council 168 = .ok (.bipush (-10), 2) := by decide +kernel
theorem dX8_council_170 : decode cX8_council 170 = .ok (.aload_n 0, 1) := by decide +kernel
theorem dX8_council_171 : decode cX8_council 171 = .ok (.getfield 77, 3) := by decide +kernel
theorem dX8_council_174 : decode cX8_council 174 = .ok (.isub, 1) := by decide +kernel
theorem dX8_council_175 : decode cX8_council 175 = .ok (.ireturn, 1) := by decide +kernel
theorem dX8_council_176 : decode cX8_council 176 = .ok (.aload_n 0, 1) := by decide +kernel
theorem dX8_council_177 : decode cX8_council 177 = .ok (.invokevirtual 103, 3) := by decide +kernel
theorem dX8_council_180 : decode cX8_council 180 = .ok (.iload_n 1, 1) := by decide +kernel
theorem dX8_council_181 : decode cX8_council 181 = .ok (.ireturn, 1) := by decide +kernel
theorem dX8_settles_0 : decode cX8_settles 0 = .ok (.iconst 0, 1) := by decide +kernel
theorem dX8_settles_1 : decode cX8_settles 1 = .ok (.istore_n 1, 1) := by decide +kernel
theorem dX8_settles_2 : decode cX8_settles 2 = .ok (.iload_n 1, 1) := by decide +kernel
theorem dX8_settles_3 : decode cX8_settles 3 = .ok (.iconst 3, 1) := by decide +kernel
theorem dX8_settles_4 : decode cX8_settles 4 = .ok (.if_icmp .ge 23, 3) := by decide +kernel
theorem dX8_settles_7 : decode cX8_settles 7 = .ok (.aload_n 0, 1) := by decide +kernel
theorem dX8_settles_8 : decode cX8_settles 8 = .ok (.getfield 13, 3) := by decide +kernel
theorem dX8_settles_11 : decode cX8_settles 11 = .ok (.iload_n 1, 1) := by decide +kernel
theorem dX8_settles_12 : decode cX8_settles 12 = .ok (.aload_n 0, 1) := by decide +kernel
theorem dX8_settles_13 : decode cX8_settles 13 = .ok (.getfield 13, 3) := by decide +kernel
theorem dX8_settles_16 : decode cX8_settles 16 = .ok (.iconst 3, 1) := by decide +kernel
theorem dX8_settles_17 : decode cX8_settles 17 = .ok (.iload_n 1, 1) := by decide +kernel
theorem dX8_settles_18 : decode cX8_settles 18 = .ok (.iadd, 1) := by decide +kernel
theorem dX8_settles_19 : decode cX8_settles 19 = .ok (.iaload, 1) := by decide +kernel
theorem dX8_settles_20 : decode cX8_settles 20 = .ok (.iastore, 1) := by decide +kernel
theorem dX8_settles_21 : decode cX8_settles 21 = .ok (.iinc 1 1, 3) := by decide +kernel
theorem dX8_settles_24 : decode cX8_settles 24 = .ok (.goto (-22), 3) := by decide +kernel
theorem dX8_settles_27 : decode cX8_settles 27 = .ok (.iconst 0, 1) := by decide +kernel
theorem dX8_settles_28 : decode cX8_settles 28 = .ok (.istore_n 1, 1) := by decide +kernel
theorem dX8_settles_29 : decode cX8_settles 29 = .ok (.iload_n 1, 1) := by decide +kernel
theorem dX8_settles_30 : decode cX8_settles 30 = .ok (.bipush 19, 2) := by decide +kernel
theorem dX8_settles_32 : decode cX8_settles 32 = .ok (.if_icmp .ge 16, 3) := by decide +kernel
theorem dX8_settles_35 : decode cX8_settles 35 = .ok (.aload_n 0, 1) := by decide +kernel
theorem dX8_settles_36 : decode cX8_settles 36 = .ok (.getfield 28, 3) := by decide +kernel
theorem dX8_settles_39 : decode cX8_settles 39 = .ok (.iload_n 1, 1) := by decide +kernel
theorem dX8_settles_40 : decode cX8_settles 40 = .ok (.iconst 0, 1) := by decide +kernel
theorem dX8_settles_41 : decode cX8_settles 41 = .ok (.iastore, 1) := by decide +kernel
theorem dX8_settles_42 : decode cX8_settles 42 = .ok (.iinc 1 1, 3) := by decide +kernel
theorem dX8_settles_45 : decode cX8_settles 45 = .ok (.goto (-16), 3) := by decide +kernel
theorem dX8_settles_48 : decode cX8_settles 48 = .ok (.iconst 0, 1) := by decide +kernel
theorem dX8_settles_49 : decode cX8_settles 49 = .ok (.istore_n 1, 1) := by decide +kernel
theorem dX8_settles_50 : decode cX8_settles 50 = .ok (.iload_n 1, 1) := by decide +kernel
theorem dX8_settles_51 : decode cX8_settles 51 = .ok (.aload_n 0, 1) := by decide +kernel
theorem dX8_settles_52 : decode cX8_settles 52 = .ok (.getfield 13, 3) := by decide +kernel
theorem dX8_settles_55 : decode cX8_settles 55 = .ok (.iconst 0, 1) := by decide +kernel
theorem dX8_settles_56 : decode cX8_settles 56 = .ok (.iaload, 1) := by decide +kernel
theorem dX8_settles_57 : decode cX8_settles 57 = .ok (.if_icmp .ge 68, 3) := by decide +kernel
theorem dX8_settles_60 : decode cX8_settles 60 = .ok (.aload_n 0, 1) := by decide +kernel
theorem dX8_settles_61 : decode cX8_settles 61 = .ok (.getfield 16, 3) := by decide +kernel
theorem dX8_settles_64 : decode cX8_settles 64 = .ok (.iload_n 1, 1) := by decide +kernel
theorem dX8_settles_65 : decode cX8_settles 65 = .ok (.aload_n 0, 1) := by decide +kernel
theorem dX8_settles_66 : decode cX8_settles 66 = .ok (.getfield 16, 3) := by decide +kernel
theorem dX8_settles_69 : decode cX8_settles 69 = .ok (.bipush 7, 2) := by decide +kernel
theorem dX8_settles_71 : decode cX8_settles 71 = .ok (.iload_n 1, 1) := by decide +kernel
theorem dX8_settles_72 : decode cX8_settles 72 = .ok (.iadd, 1) := by decide +kernel
theorem dX8_settles_73 : decode cX8_settles 73 = .ok (.iaload, 1) := by decide +kernel
theorem dX8_settles_74 : decode cX8_settles 74 = .ok (.iastore, 1) := by decide +kernel
theorem dX8_settles_75 : decode cX8_settles 75 = .ok (.aload_n 0, 1) := by decide +kernel
theorem dX8_settles_76 : decode cX8_settles 76 = .ok (.getfield 19, 3) := by decide +kernel
theorem dX8_settles_79 : decode cX8_settles 79 = .ok (.iload_n 1, 1) := by decide +kernel
theorem dX8_settles_80 : decode cX8_settles 80 = .ok (.aload_n 0, 1) := by decide +kernel
theorem dX8_settles_81 : decode cX8_settles 81 = .ok (.getfield 19, 3) := by decide +kernel
theorem dX8_settles_84 : decode cX8_settles 84 = .ok (.bipush 7, 2) := by decide +kernel
theorem dX8_settles_86 : decode cX8_settles 86 = .ok (.iload_n 1, 1) := by decide +kernel
theorem dX8_settles_87 : decode cX8_settles 87 = .ok (.iadd, 1) := by decide +kernel
theorem dX8_settles_88 : decode cX8_settles 88 = .ok (.iaload, 1) := by decide +kernel
theorem dX8_settles_89 : decode cX8_settles 89 = .ok (.iastore, 1) := by decide +kernel
theorem dX8_settles_90 : decode cX8_settles 90 = .ok (.aload_n 0, 1) := by decide +kernel
theorem dX8_settles_91 : decode cX8_settles 91 = .ok (.getfield 22, 3) := by decide +kernel
theorem dX8_settles_94 : decode cX8_settles 94 = .ok (.iload_n 1, 1) := by decide +kernel
theorem dX8_settles_95 : decode cX8_settles 95 = .ok (.aload_n 0, 1) := by decide +kernel
theorem dX8_settles_96 : decode cX8_settles 96 = .ok (.getfield 22, 3) := by decide +kernel
theorem dX8_settles_99 : decode cX8_settles 99 = .ok (.bipush 7, 2) := by decide +kernel
theorem dX8_settles_101 : decode cX8_settles 101 = .ok (.iload_n 1, 1) := by decide +kernel
theorem dX8_settles_102 : decode cX8_settles 102 = .ok (.iadd, 1) := by decide +kernel
theorem dX8_settles_103 : decode cX8_settles 103 = .ok (.iaload, 1) := by decide +kernel
theorem dX8_settles_104 : decode cX8_settles 104 = .ok (.iastore, 1) := by decide +kernel
theorem dX8_settles_105 : decode cX8_settles 105 = .ok (.aload_n 0, 1) := by decide +kernel
theorem dX8_settles_106 : decode cX8_settles 106 = .ok (.getfield 28, 3) := by decide +kernel
theorem dX8_settles_109 : decode cX8_settles 109 = .ok (.iconst 0, 1) := by decide +kernel
theorem dX8_settles_110 : decode cX8_settles 110 = .ok (.iload_n 1, 1) := by decide +kernel
theorem dX8_settles_111 : decode cX8_settles 111 = .ok (.iadd, 1) := by decide +kernel
theorem dX8_settles_112 : decode cX8_settles 112 = .ok (.aload_n 0, 1) := by decide +kernel
theorem dX8_settles_113 : decode cX8_settles 113 = .ok (.getfield 25, 3) := by decide +kernel
theorem dX8_settles_116 : decode cX8_settles 116 = .ok (.iload_n 1, 1) := by decide +kernel
theorem dX8_settles_117 : decode cX8_settles 117 = .ok (.iaload, 1) := by decide +kernel
theorem dX8_settles_118 : decode cX8_settles 118 = .ok (.iastore, 1) := by decide +kernel
theorem dX8_settles_119 : decode cX8_settles 119 = .ok (.iinc 1 1, 3) := by decide +kernel
theorem dX8_settles_122 : decode cX8_settles 122 = .ok (.goto (-72), 3) := by decide +kernel
theorem dX8_settles_125 : decode cX8_settles 125 = .ok (.aload_n 0, 1) := by decide +kernel
theorem dX8_settles_126 : decode cX8_settles 126 = .ok (.iconst 0, 1) := by decide +kernel
theorem dX8_settles_127 : decode cX8_settles 127 = .ok (.putfield 58, 3) := by decide +kernel
theorem dX8_settles_130 : decode cX8_settles 130 = .ok (.aload_n 0, 1) := by decide +kernel
theorem dX8_settles_131 : decode cX8_settles 131 = .ok (.iconst 0, 1) := by decide +kernel
theorem dX8_settles_132 : decode cX8_settles 132 = .ok (.putfield 106, 3) := by decide +kernel
theorem dX8_settles_135 : decode cX8_settles 135 = .ok (.aload_n 0, 1) := by decide +kernel
theorem dX8_settles_136 : decode cX8_settles 136 = .ok (.iconst 0, 1) := by decide +kernel
theorem dX8_settles_137 : decode cX8_settles 137 = .ok (.putfield 109, 3) := by decide +kernel
theorem dX8_settles_140 : decode cX8_settles 140 = .ok (.aload_n 0, 1) := by decide +kernel
theorem dX8_settles_141 : decode cX8_settles 141 = .ok (.getfield 37, 3) := by decide +kernel
theorem dX8_settles_144 : decode cX8_settles 144 = .ok (.iconst 0, 1) := by decide +kernel
theorem dX8_settles_145 : decode cX8_settles 145 = .ok (.iconst 0, 1) := by decide +kernel
theorem dX8_settles_146 : decode cX8_settles 146 = .ok (.bastore, 1) := by decide +kernel
theorem dX8_settles_147 : decode cX8_settles 147 = .ok (.aload_n 0, 1) := by decide +kernel
theorem dX8_settles_148 : decode cX8_settles 148 = .ok (.getfield 37, 3) := by decide +kernel
theorem dX8_settles_151 : decode cX8_settles 151 = .ok (.iconst 1, 1) := by decide +kernel
theorem dX8_settles_152 : decode cX8_settles 152 = .ok (.iconst 0, 1) := by decide +kernel
theorem dX8_settles_153 : decode cX8_settles 153 = .ok (.bastore, 1) := by decide +kernel
theorem dX8_settles_154 : decode cX8_settles 154 = .ok (.return_, 1) := by decide +kernel
set_option maxRecDepth 20000 in
theorem ggX8_isThing_X8_in : GoodIn wsX8_isThing wsX8_in := goodIn_r _ [5] (by decide +kernel) (by decide +kernel)
set_option maxRecDepth 20000 in
theorem gX8_isThing_X8_in : GoodIn wsX8_isThing (va_wsS RX8 54 yX8_in wsX8_in) := goodIn_app (goodIn_of _ (by decide +kernel)) ggX8_isThing_X8_in
theorem dX8_isThing_0 : decode cX8_isThing 0 = .ok (.iload_n 1, 1) := by decide +kernel
theorem dX8_isThing_1 : decode cX8_isThing 1 = .ok (.iconst 0, 1) := by decide +kernel
theorem dX8_isThing_2 : decode cX8_isThing 2 = .ok (.aload_n 0, 1) := by decide +kernel
theorem dX8_isThing_3 : decode cX8_isThing 3 = .ok (.getfield 13, 3) := by decide +kernel
theorem dX8_isThing_6 : decode cX8_isThing 6 = .ok (.iconst 0, 1) := by decide +kernel
theorem dX8_isThing_7 : decode cX8_isThing 7 = .ok (.iaload, 1) := by decide +kernel
theorem dX8_isThing_8 : decode cX8_isThing 8 = .ok (.iconst 1, 1) := by decide +kernel
theorem dX8_isThing_9 : decode cX8_isThing 9 = .ok (.isub, 1) := by decide +kernel
theorem dX8_isThing_10 : decode cX8_isThing 10 = .ok (.invokestatic 54, 3) := by decide +kernel
theorem dX8_isThing_13 : decode cX8_isThing 13 = .ok (.ireturn, 1) := by decide +kernel
set_option maxRecDepth 20000 in
theorem ggX8_isOfficer_X8_in : GoodIn wsX8_isOfficer wsX8_in := goodIn_r _ [5] (by decide +kernel) (by decide +kernel)
set_option maxRecDepth 20000 in
theorem gX8_isOfficer_X8_in : GoodIn wsX8_isOfficer (va_wsS RX8 54 yX8_in wsX8_in) := goodIn_app (goodIn_of _ (by decide +kernel)) ggX8_isOfficer_X8_in
theorem dX8_isOfficer_0 : decode cX8_isOfficer 0 = .ok (.iload_n 1, 1) := by decide +kernel
theorem dX8_isOfficer_1 : decode cX8_isOfficer 1 = .ok (.iconst 0, 1) := by decide +kernel
theorem dX8_isOfficer_2 : decode cX8_isOfficer 2 = .ok (.aload_n 0, 1) := by decide +kernel
theorem dX8_isOfficer_3 : decode cX8_isOfficer 3 = .ok (.getfield 13, 3) := by decide +kernel
theorem dX8_isOfficer_6 : decode cX8_isOfficer 6 = .ok (.iconst 1, 1) := by decide +kernel
theorem dX8_isOfficer_7 : decode cX8_isOfficer 7 = .ok (.iaload, 1) := by decide +kernel
theorem dX8_isOfficer_8 : decode cX8_isOfficer 8 = .ok (.iconst 1, 1) := by decide +kernel
theorem dX8_isOfficer_9 : decode cX8_isOfficer 9 = .ok (.isub, 1) := by decide +kernel
theorem dX8_isOfficer_10 : decode cX8_isOfficer 10 = .ok (.invokestatic 54, 3) := by decide +kernel
theorem dX8_isOfficer_13 : decode cX8_isOfficer 13 = .ok (.ireturn, 1) := by decide +kernel
set_option maxRecDepth 20000 in
theorem ggX8_isBill_X8_in : GoodIn wsX8_isBill wsX8_in := goodIn_r _ [4] (by decide +kernel) (by decide +kernel)
set_option maxRecDepth 20000 in
theorem gX8_isBill_X8_in : GoodIn wsX8_isBill (va_wsS RX8 54 yX8_in wsX8_in) := goodIn_app (goodIn_of _ (by decide +kernel)) ggX8_isBill_X8_in
theorem dX8_isBill_0 : decode cX8_isBill 0 = .ok (.iload_n 0, 1) := by decide +kernel
theorem dX8_isBill_1 : decode cX8_isBill 1 = .ok (.iconst 0, 1) := by decide +kernel
theorem dX8_isBill_2 : decode cX8_isBill 2 = .ok (.iconst 4, 1) := by decide +kernel
theorem dX8_isBill_3 : decode cX8_isBill 3 = .ok (.invokestatic 54, 3) := by decide +kernel
theorem dX8_isBill_6 : decode cX8_isBill 6 = .ok (.ireturn, 1) := by decide +kernel
theorem dX8_speaks_0 : decode cX8_speaks 0 = .ok (.aload_n 1, 1) := by decide +kernel
theorem dX8_speaks_1 : decode cX8_speaks 1 = .ok (.bipush 14, 2) := by decide +kernel
theorem dX8_speaks_3 : decode cX8_speaks 3 = .ok (.iaload, 1) := by decide +kernel
theorem dX8_speaks_4 : decode cX8_speaks 4 = .ok (.iload_n 2, 1) := by decide +kernel
theorem dX8_speaks_5 : decode cX8_speaks 5 = .ok (.ishr, 1) := by decide +kernel
theorem dX8_speaks_6 : decode cX8_speaks 6 = .ok (.iconst 1, 1) := by decide +kernel
theorem dX8_speaks_7 : decode cX8_speaks 7 = .ok (.iand, 1) := by decide +kernel
theorem dX8_speaks_8 : decode cX8_speaks 8 = .ok (.ifCond .ne 22, 3) := by decide +kernel
theorem dX8_speaks_11 : decode cX8_speaks 11 = .ok (.aload_n 1, 1) := by decide +kernel
theorem dX8_speaks_12 : decode cX8_speaks 12 = .ok (.bipush 16, 2) := by decide +kernel
theorem dX8_speaks_14 : decode cX8_speaks 14 = .ok (.iaload, 1) := by decide +kernel
theorem dX8_speaks_15 : decode cX8_speaks 15 = .ok (.aload_n 1, 1) := by decide +kernel
theorem dX8_speaks_16 : decode cX8_speaks 16 = .ok (.iconst 0, 1) := by decide +kernel
theorem dX8_speaks_17 : decode cX8_speaks 17 = .ok (.iload_n 2, 1) := by decide +kernel
theorem dX8_speaks_18 : decode cX8_speaks 18 = .ok (.iadd, 1) := by decide +kernel
theorem dX8_speaks_19 : decode cX8_speaks 19 = .ok (.iaload, 1) := by decide +kernel
theorem dX8_speaks_20 : decode cX8_speaks 20 = .ok (.ishr, 1) := by decide +kernel
theorem dX8_speaks_21 : decode cX8_speaks 21 = .ok (.iconst 1, 1) := by decide +kernel
theorem dX8_speaks_22 : decode cX8_speaks 22 = .ok (.iand, 1) := by decide +kernel
theorem dX8_speaks_23 : decode cX8_speaks 23 = .ok (.ifCond .ne 7, 3) := by decide +kernel
theorem dX8_speaks_26 : decode cX8_speaks 26 = .ok (.iconst 1, 1) := by decide +kernel
theorem dX8_speaks_27 : decode cX8_speaks 27 = .ok (.goto 4, 3) := by decide +kernel
theorem dX8_speaks_30 : decode cX8_speaks 30 = .ok (.iconst 0, 1) := by decide +kernel
theorem dX8_speaks_31 : decode cX8_speaks 31 = .ok (.istore_n 3, 1) := by decide +kernel
theorem dX8_speaks_32 : decode cX8_speaks 32 = .ok (.iload_n 3, 1) := by decide +kernel
theorem dX8_speaks_33 : decode cX8_speaks 33 = .ok (.ifCond .eq 36, 3) := by decide +kernel
theorem dX8_speaks_36 : decode cX8_speaks 36 = .ok (.aload_n 0, 1) := by decide +kernel
theorem dX8_speaks_37 : decode cX8_speaks 37 = .ok (.getfield 16, 3) := by decide +kernel
theorem dX8_speaks_40 : decode cX8_speaks 40 = .ok (.iload_n 2, 1) := by decide +kernel
theorem dX8_speaks_41 : decode cX8_speaks 41 = .ok (.iaload, 1) := by decide +kernel
theorem dX8_speaks_42 : decode cX8_speaks 42 = .ok (.iconst 3, 1) := by decide +kernel
theorem dX8_speaks_43 : decode cX8_speaks 43 = .ok (.if_icmp .eq 26, 3) := by decide +kernel
