theorem dX8_speaks_46 : decode cX8_speaks 46 = .ok (.aload_n 0, 1) := by decide +kernel
theorem dX8_speaks_47 : decode cX8_speaks 47 = .ok (.getfield 16, 3) := by decide +kernel
theorem dX8_speaks_50 : decode cX8_speaks 50 = .ok (.iload_n 2, 1) := by decide +kernel
theorem dX8_speaks_51 : decode cX8_speaks 51 = .ok (.iaload, 1) := by decide +kernel
theorem dX8_speaks_52 : decode cX8_speaks 52 = .ok (.iconst 1, 1) := by decide +kernel
theorem dX8_speaks_53 : decode cX8_speaks 53 = .ok (.if_icmp .ne 12, 3) := by decide +kernel
theorem dX8_speaks_56 : decode cX8_speaks 56 = .ok (.aload_n 1, 1) := by decide +kernel
theorem dX8_speaks_57 : decode cX8_speaks 57 = .ok (.bipush 7, 2) := by decide +kernel
theorem dX8_speaks_59 : decode cX8_speaks 59 = .ok (.iload_n 2, 1) := by decide +kernel
theorem dX8_speaks_60 : decode cX8_speaks 60 = .ok (.iadd, 1) := by decide +kernel
theorem dX8_speaks_61 : decode cX8_speaks 61 = .ok (.iaload, 1) := by decide +kernel
theorem dX8_speaks_62 : decode cX8_speaks 62 = .ok (.ifCond .le 7, 3) := by decide +kernel
theorem dX8_speaks_65 : decode cX8_speaks 65 = .ok (.iconst 1, 1) := by decide +kernel
theorem dX8_speaks_66 : decode cX8_speaks 66 = .ok (.goto 4, 3) := by decide +kernel
theorem dX8_speaks_69 : decode cX8_speaks 69 = .ok (.iconst 0, 1) := by decide +kernel
theorem dX8_speaks_70 : decode cX8_speaks 70 = .ok (.ireturn, 1) := by decide +kernel
set_option maxRecDepth 20000 in
theorem ggX8_voices_X8_speaks : GoodIn wsX8_voices wsX8_speaks := goodIn_r _ [6, 7, 8, 9, 10, 11, 12, 13, 14, 15, 16, 17, 18, 19, 20, 21, 22, 23, 24, 25, 26, 27, 28, 29, 30, 31] (by decide +kernel) (by decide +kernel)
set_option maxRecDepth 20000 in
theorem gX8_voices_X8_speaks : GoodIn wsX8_voices (wsV RX8 112 RX8 yX8_speaks wsX8_speaks) := goodIn_app (goodIn_of _ (by decide +kernel)) ggX8_voices_X8_speaks
theorem dX8_voices_0 : decode cX8_voices 0 = .ok (.iconst 0, 1) := by decide +kernel
theorem dX8_voices_1 : decode cX8_voices 1 = .ok (.istore_n 2, 1) := by decide +kernel
theorem dX8_voices_2 : decode cX8_voices 2 = .ok (.iconst 0, 1) := by decide +kernel
theorem dX8_voices_3 : decode cX8_voices 3 = .ok (.istore_n 3, 1) := by decide +kernel
theorem dX8_voices_4 : decode cX8_voices 4 = .ok (.iload_n 3, 1) := by decide +kernel
theorem dX8_voices_5 : decode cX8_voices 5 = .ok (.aload_n 0, 1) := by decide +kernel
theorem dX8_voices_6 : decode cX8_voices 6 = .ok (.getfield 13, 3) := by decide +kernel
theorem dX8_voices_9 : decode cX8_voices 9 = .ok (.iconst 0, 1) := by decide +kernel
theorem dX8_voices_10 : decode cX8_voices 10 = .ok (.iaload, 1) := by decide +kernel
theorem dX8_voices_11 : decode cX8_voices 11 = .ok (.if_icmp .ge 28, 3) := by decide +kernel
theorem dX8_voices_14 : decode cX8_voices 14 = .ok (.iload_n 2, 1) := by decide +kernel
theorem dX8_voices_15 : decode cX8_voices 15 = .ok (.aload_n 0, 1) := by decide +kernel
theorem dX8_voices_16 : decode cX8_voices 16 = .ok (.aload_n 1, 1) := by decide +kernel
theorem dX8_voices_17 : decode cX8_voices 17 = .ok (.iload_n 3, 1) := by decide +kernel
theorem dX8_voices_18 : decode cX8_voices 18 = .ok (.invokevirtual 112, 3) := by decide +kernel
theorem dX8_voices_21 : decode cX8_voices 21 = .ok (.ifCond .eq 9, 3) := by decide +kernel
theorem dX8_voices_24 : decode cX8_voices 24 = .ok (.iconst 1, 1) := by decide +kernel
theorem dX8_voices_25 : decode cX8_voices 25 = .ok (.iload_n 3, 1) := by decide +kernel
theorem dX8_voices_26 : decode cX8_voices 26 = .ok (.ishl, 1) := by decide +kernel
theorem dX8_voices_27 : decode cX8_voices 27 = .ok (.goto 4, 3) := by decide +kernel
theorem dX8_voices_30 : decode cX8_voices 30 = .ok (.iconst 0, 1) := by decide +kernel
theorem dX8_voices_31 : decode cX8_voices 31 = .ok (.ior, 1) := by decide +kernel
theorem dX8_voices_32 : decode cX8_voices 32 = .ok (.istore_n 2, 1) := by decide +kernel
theorem dX8_voices_33 : decode cX8_voices 33 = .ok (.iinc 3 1, 3) := by decide +kernel
theorem dX8_voices_36 : decode cX8_voices 36 = .ok (.goto (-32), 3) := by decide +kernel
theorem dX8_voices_39 : decode cX8_voices 39 = .ok (.iload_n 2, 1) := by decide +kernel
theorem dX8_voices_40 : decode cX8_voices 40 = .ok (.ireturn, 1) := by decide +kernel
theorem dX8_saysYes_0 : decode cX8_saysYes 0 = .ok (.iconst 0, 1) := by decide +kernel
theorem dX8_saysYes_1 : decode cX8_saysYes 1 = .ok (.istore_n 3, 1) := by decide +kernel
theorem dX8_saysYes_2 : decode cX8_saysYes 2 = .ok (.iconst 0, 1) := by decide +kernel
theorem dX8_saysYes_3 : decode cX8_saysYes 3 = .ok (.istore 4, 2) := by decide +kernel
theorem dX8_saysYes_5 : decode cX8_saysYes 5 = .ok (.iload 4, 2) := by decide +kernel
theorem dX8_saysYes_7 : decode cX8_saysYes 7 = .ok (.aload_n 0, 1) := by decide +kernel
theorem dX8_saysYes_8 : decode cX8_saysYes 8 = .ok (.getfield 13, 3) := by decide +kernel
theorem dX8_saysYes_11 : decode cX8_saysYes 11 = .ok (.iconst 0, 1) := by decide +kernel
theorem dX8_saysYes_12 : decode cX8_saysYes 12 = .ok (.iaload, 1) := by decide +kernel
theorem dX8_saysYes_13 : decode cX8_saysYes 13 = .ok (.if_icmp .ge 43, 3) := by decide +kernel
theorem dX8_saysYes_16 : decode cX8_saysYes 16 = .ok (.iload_n 3, 1) := by decide +kernel
theorem dX8_saysYes_17 : decode cX8_saysYes 17 = .ok (.aload_n 0, 1) := by decide +kernel
theorem dX8_saysYes_18 : decode cX8_saysYes 18 = .ok (.getfield 22, 3) := by decide +kernel
theorem dX8_saysYes_21 : decode cX8_saysYes 21 = .ok (.iload 4, 2) := by decide +kernel
theorem dX8_saysYes_23 : decode cX8_saysYes 23 = .ok (.iaload, 1) := by decide +kernel
theorem dX8_saysYes_24 : decode cX8_saysYes 24 = .ok (.iload_n 2, 1) := by decide +kernel
theorem dX8_saysYes_25 : decode cX8_saysYes 25 = .ok (.ishr, 1) := by decide +kernel
theorem dX8_saysYes_26 : decode cX8_saysYes 26 = .ok (.aload_n 1, 1) := by decide +kernel
theorem dX8_saysYes_27 : decode cX8_saysYes 27 = .ok (.bipush 15, 2) := by decide +kernel
theorem dX8_saysYes_29 : decode cX8_saysYes 29 = .ok (.iaload, 1) := by decide +kernel
theorem dX8_saysYes_30 : decode cX8_saysYes 30 = .ok (.iload 4, 2) := by decide +kernel
theorem dX8_saysYes_32 : decode cX8_saysYes 32 = .ok (.ishr, 1) := by decide +kernel
theorem dX8_saysYes_33 : decode cX8_saysYes 33 = .ok (.ixor, 1) := by decide +kernel
theorem dX8_saysYes_34 : decode cX8_saysYes 34 = .ok (.iconst 1, 1) := by decide +kernel
theorem dX8_saysYes_35 : decode cX8_saysYes 35 = .ok (.iand, 1) := by decide +kernel
theorem dX8_saysYes_36 : decode cX8_saysYes 36 = .ok (.iconst 1, 1) := by decide +kernel
theorem dX8_saysYes_37 : decode cX8_saysYes 37 = .ok (.if_icmp .ne 10, 3) := by decide +kernel
theorem dX8_saysYes_40 : decode cX8_saysYes 40 = .ok (.iconst 1, 1) := by decide +kernel
theorem dX8_saysYes_41 : decode cX8_saysYes 41 = .ok (.iload 4, 2) := by decide +kernel
theorem dX8_saysYes_43 : decode cX8_saysYes 43 = .ok (.ishl, 1) := by decide +kernel
theorem dX8_saysYes_44 : decode cX8_saysYes 44 = .ok (.goto 4, 3) := by decide +kernel
theorem dX8_saysYes_47 : decode cX8_saysYes 47 = .ok (.iconst 0, 1) := by decide +kernel
theorem dX8_saysYes_48 : decode cX8_saysYes 48 = .ok (.ior, 1) := by decide +kernel
theorem dX8_saysYes_49 : decode cX8_saysYes 49 = .ok (.istore_n 3, 1) := by decide +kernel
theorem dX8_saysYes_50 : decode cX8_saysYes 50 = .ok (.iinc 4 1, 3) := by decide +kernel
theorem dX8_saysYes_53 : decode cX8_saysYes 53 = .ok (.goto (-48), 3) := by decide +kernel
theorem dX8_saysYes_56 : decode cX8_saysYes 56 = .ok (.iload_n 3, 1) := by decide +kernel
theorem dX8_saysYes_57 : decode cX8_saysYes 57 = .ok (.ireturn, 1) := by decide +kernel
theorem dX8_votesOf_0 : decode cX8_votesOf 0 = .ok (.iconst 0, 1) := by decide +kernel
theorem dX8_votesOf_1 : decode cX8_votesOf 1 = .ok (.istore_n 2, 1) := by decide +kernel
theorem dX8_votesOf_2 : decode cX8_votesOf 2 = .ok (.iconst 0, 1) := by decide +kernel
theorem dX8_votesOf_3 : decode cX8_votesOf 3 = .ok (.istore_n 3, 1) := by decide +kernel
theorem dX8_votesOf_4 : decode cX8_votesOf 4 = .ok (.iload_n 3, 1) := by decide +kernel
theorem dX8_votesOf_5 : decode cX8_votesOf 5 = .ok (.aload_n 0, 1) := by decide +kernel
theorem dX8_votesOf_6 : decode cX8_votesOf 6 = .ok (.getfield 13, 3) := by decide +kernel
theorem dX8_votesOf_9 : decode cX8_votesOf 9 = .ok (.iconst 0, 1) := by decide +kernel
theorem dX8_votesOf_10 : decode cX8_votesOf 10 = .ok (.iaload, 1) := by decide +kernel
theorem dX8_votesOf_11 : decode cX8_votesOf 11 = .ok (.if_icmp .ge 31, 3) := by decide +kernel
theorem dX8_votesOf_14 : decode cX8_votesOf 14 = .ok (.iload_n 2, 1) := by decide +kernel
theorem dX8_votesOf_15 : decode cX8_votesOf 15 = .ok (.iload_n 1, 1) := by decide +kernel
theorem dX8_votesOf_16 : decode cX8_votesOf 16 = .ok (.iload_n 3, 1) := by decide +kernel
theorem dX8_votesOf_17 : decode cX8_votesOf 17 = .ok (.ishr, 1) := by decide +kernel
theorem dX8_votesOf_18 : decode cX8_votesOf 18 = .ok (.iconst 1, 1) := by decide +kernel
theorem dX8_votesOf_19 : decode cX8_votesOf 19 = .ok (.iand, 1) := by decide +kernel
theorem dX8_votesOf_20 : decode cX8_votesOf 20 = .ok (.iconst 1, 1) := by decide +kernel
theorem dX8_votesOf_21 : decode cX8_votesOf 21 = .ok (.if_icmp .ne 12, 3) := by decide +kernel
theorem dX8_votesOf_24 : decode cX8_votesOf 24 = .ok (.aload_n 0, 1) := by decide +kernel
theorem dX8_votesOf_25 : decode cX8_votesOf 25 = .ok (.getfield 19, 3) := by decide +kernel
theorem dX8_votesOf_28 : decode cX8_votesOf 28 = .ok (.iload_n 3, 1) := by decide +kernel
theorem dX8_votesOf_29 : decode cX8_votesOf 29 = .ok (.iaload, 1) := by decide +kernel
theorem dX8_votesOf_30 : decode cX8_votesOf 30 = .ok (.goto 4, 3) := by decide +kernel
theorem dX8_votesOf_33 : decode cX8_votesOf 33 = .ok (.iconst 0, 1) := by decide +kernel
theorem dX8_votesOf_34 : decode cX8_votesOf 34 = .ok (.iadd, 1) := by decide +kernel
theorem dX8_votesOf_35 : decode cX8_votesOf 35 = .ok (.istore_n 2, 1) := by decide +kernel
theorem dX8_votesOf_36 : decode cX8_votesOf 36 = .ok (.iinc 3 1, 3) := by decide +kernel
theorem dX8_votesOf_39 : decode cX8_votesOf 39 = .ok (.goto (-35), 3) := by decide +kernel
theorem dX8_votesOf_42 : decode cX8_votesOf 42 = .ok (.iload_n 2, 1) := by decide +kernel
theorem dX8_votesOf_43 : decode cX8_votesOf 43 = .ok (.ireturn, 1) := by decide +kernel
set_option maxRecDepth 20000 in
theorem ggX8_passesBy_X8_votesOf : GoodIn wsX8_passesBy wsX8_votesOf := goodIn_r _ [5, 6, 7, 8, 9, 10, 11, 12, 13, 14, 15, 16, 17, 18, 19, 20, 21, 22, 23, 24, 25, 26, 27, 28, 29, 30, 31] (by decide +kernel) (by decide +kernel)
set_option maxRecDepth 20000 in
theorem gX8_passesBy_X8_votesOf : GoodIn wsX8_passesBy (wsV RX8 116 RX8 yX8_votesOf wsX8_votesOf) := goodIn_app (goodIn_of _ (by decide +kernel)) ggX8_passesBy_X8_votesOf
theorem dX8_passesBy_0 : decode cX8_passesBy 0 = .ok (.aload_n 0, 1) := by decide +kernel
theorem dX8_passesBy_1 : decode cX8_passesBy 1 = .ok (.iload_n 1, 1) := by decide +kernel
theorem dX8_passesBy_2 : decode cX8_passesBy 2 = .ok (.iload_n 2, 1) := by decide +kernel
theorem dX8_passesBy_3 : decode cX8_passesBy 3 = .ok (.iand, 1) := by decide +kernel
theorem dX8_passesBy_4 : decode cX8_passesBy 4 = .ok (.invokevirtual 116, 3) := by decide +kernel
theorem dX8_passesBy_7 : decode cX8_passesBy 7 = .ok (.aload_n 0, 1) := by decide +kernel
theorem dX8_passesBy_8 : decode cX8_passesBy 8 = .ok (.iload_n 1, 1) := by decide +kernel
theorem dX8_passesBy_9 : decode cX8_passesBy 9 = .ok (.iload_n 2, 1) := by decide +kernel
theorem dX8_passesBy_10 : decode cX8_passesBy 10 = .ok (.iconst (-1), 1) := by decide +kernel
theorem dX8_passesBy_11 : decode cX8_passesBy 11 = .ok (.ixor, 1) := by decide +kernel
theorem dX8_passesBy_12 : decode cX8_passesBy 12 = .ok (.iand, 1) := by decide +kernel
theorem dX8_passesBy_13 : decode cX8_passesBy 13 = .ok (.invokevirtual 116, 3) := by decide +kernel
theorem dX8_passesBy_16 : decode cX8_passesBy 16 = .ok (.if_icmp .le 7, 3) := by decide +kernel
theorem dX8_passesBy_19 : decode cX8_passesBy 19 = .ok (.iconst 1, 1) := by decide +kernel
theorem dX8_passesBy_20 : decode cX8_passesBy 20 = .ok (.goto 4, 3) := by decide +kernel
theorem dX8_passesBy_23 : decode cX8_passesBy 23 = .ok (.iconst 0, 1) := by decide +kernel
theorem dX8_passesBy_24 : decode cX8_passesBy 24 = .ok (.ireturn, 1) := by decide +kernel
set_option maxRecDepth 20000 in
theorem ggX8_passes_X8_voices : GoodIn wsX8_passes wsX8_voices := goodIn_r _ [5, 6, 7, 8, 9, 4, 10, 11, 26, 27, 28, 29, 30, 31, 32, 33, 34, 35, 36, 37, 38, 39, 40, 41, 42, 43, 44, 45, 46, 47, 48, 49] (by decide +kernel) (by decide +kernel)
set_option maxRecDepth 20000 in
theorem gX8_passes_X8_voices : GoodIn wsX8_passes (wsV RX8 119 RX8 yX8_voices wsX8_voices) := goodIn_app (goodIn_of _ (by decide +kernel)) ggX8_passes_X8_voices
set_option maxRecDepth 20000 in
theorem ggX8_passes_X8_saysYes : GoodIn wsX8_passes wsX8_saysYes := goodIn_r _ [15, 6, 16, 26, 27, 28, 29, 30, 31, 32, 33, 34, 35, 36, 37, 38, 39, 40, 41, 42, 43, 44, 45, 46, 47, 48, 49] (by decide +kernel) (by decide +kernel)
set_option maxRecDepth 20000 in
theorem gX8_passes_X8_saysYes : GoodIn wsX8_passes (wsV RX8 123 RX8 yX8_saysYes wsX8_saysYes) := goodIn_app (goodIn_of _ (by decide +kernel)) ggX8_passes_X8_saysYes
set_option maxRecDepth 20000 in
theorem ggX8_passes_X8_passesBy : GoodIn wsX8_passes wsX8_passesBy := goodIn_r _ [20, 21, 22, 23, 4, 24, 6, 25, 26, 27, 28, 29, 30, 31, 32, 33, 34, 35, 36, 37, 38, 39, 40, 41, 42, 43, 44, 45, 46, 47, 48, 49] (by decide +kernel) (by decide +kernel)
set_option maxRecDepth 20000 in
theorem gX8_passes_X8_passesBy : GoodIn wsX8_passes (wsV RX8 127 RX8 yX8_passesBy wsX8_passesBy) := goodIn_app (goodIn_of _ (by decide +kernel)) ggX8_passes_X8_passesBy
theorem dX8_passes_0 : decode cX8_passes 0 = .ok (.aload_n 0, 1) := by decide +kernel
theorem dX8_passes_1 : decode cX8_passes 1 = .ok (.aload_n 0, 1) := by decide +kernel
theorem dX8_passes_2 : decode cX8_passes 2 = .ok (.aload_n 1, 1) := by decide +kernel
theorem dX8_passes_3 : decode cX8_passes 3 = .ok (.invokevirtual 119, 3) := by decide +kernel
theorem dX8_passes_6 : decode cX8_passes 6 = .ok (.aload_n 0, 1) := by decide +kernel
theorem dX8_passes_7 : decode cX8_passes 7 = .ok (.aload_n 1, 1) := by decide +kernel
theorem dX8_passes_8 : decode cX8_passes 8 = .ok (.iload_n 2, 1) := by decide +kernel
theorem dX8_passes_9 : decode cX8_passes 9 = .ok (.invokevirtual 123, 3) := by decide +kernel
theorem dX8_passes_12 : decode cX8_passes 12 = .ok (.invokevirtual 127, 3) := by decide +kernel
theorem dX8_passes_15 : decode cX8_passes 15 = .ok (.ireturn, 1) := by decide +kernel
set_option maxRecDepth 20000 in
theorem ggX8_thing_X8_isThing : GoodIn wsX8_thing wsX8_isThing := goodIn_r _ [10, 11, 12, 13, 9, 14, 19, 20, 21, 22, 23, 24, 25, 26, 27, 28, 29, 30, 31, 32, 33, 34, 35, 36, 37, 38, 39, 40, 41, 42] (by decide +kernel) (by decide +kernel)
set_option maxRecDepth 20000 in
theorem gX8_thing_X8_isThing : GoodIn wsX8_thing (wsV RX8 131 RX8 yX8_isThing wsX8_isThing) := goodIn_app (goodIn_of _ (by decide +kernel)) ggX8_thing_X8_isThing
set_option maxRecDepth 20000 in
theorem ggX8_thing_X8_in : GoodIn wsX8_thing wsX8_in := goodIn_r _ [14] (by decide +kernel) (by decide +kernel)
set_option maxRecDepth 20000 in
theorem gX8_thing_X8_in : GoodIn wsX8_thing (va_wsS RX8 54 yX8_in wsX8_in) := goodIn_app (goodIn_of _ (by decide +kernel)) ggX8_thing_X8_in
set_option maxRecDepth 20000 in
theorem ggX8_thing_X8_speaks : GoodIn wsX8_thing wsX8_speaks := goodIn_r _ [18, 2, 19, 20, 21, 22, 23, 24, 25, 26, 27, 28, 29, 30, 31, 32, 33, 34, 35, 36, 37, 38, 39, 40, 41, 42] (by decide +kernel) (by decide +kernel)
set_option maxRecDepth 20000 in
theorem gX8_thing_X8_speaks : GoodIn wsX8_thing (wsV RX8 112 RX8 yX8_speaks wsX8_speaks) := goodIn_app (goodIn_of _ (by decide +kernel)) ggX8_thing_X8_speaks
theorem dX8_thing_0 : decode cX8_thing 0 = .ok (.aload_n 0, 1) := by decide +kernel
theorem dX8_thing_1 : decode cX8_thing 1 = .ok (.iconst 0, 1) := by decide +kernel
theorem dX8_thing_2 : decode cX8_thing 2 = .ok (.putfield 50, 3) := by decide +kernel
theorem dX8_thing_5 : decode cX8_thing 5 = .ok (.aload_n 0, 1) := by decide +kernel
theorem dX8_thing_6 : decode cX8_thing 6 = .ok (.iload_n 1, 1) := by decide +kernel
theorem dX8_thing_7 : decode cX8_thing 7 = .ok (.invokevirtual 131, 3) := by decide +kernel
theorem dX8_thing_10 : decode cX8_thing 10 = .ok (.ifCond .eq 13, 3) := by decide +kernel
theorem dX8_thing_13 : decode cX8_thing 13 = .ok (.iload_n 2, 1) := by decide +kernel
theorem dX8_thing_14 : decode cX8_thing 14 = .ok (.iconst 0, 1) := by decide +kernel
theorem dX8_thing_15 : decode cX8_thing 15 = .ok (.bipush 7, 2) := by decide +kernel
theorem dX8_thing_17 : decode cX8_thing 17 = .ok (.invokestatic 54, 3) := by decide +kernel
theorem dX8_thing_20 : decode cX8_thing 20 = .ok (.ifCond .ne 5, 3) := by decide +kernel
theorem dX8_thing_23 : decode cX8_thing 23 = .ok (.iconst (-1), 1) := by decide +kernel
theorem dX8_thing_24 : decode cX8_thing 24 = .ok (.ireturn, 1) := by decide +kernel
theorem dX8_thing_25 : decode cX8_thing 25 = .ok (.iload_n 2, 1) := by decide +kernel
theorem dX8_thing_26 : decode cX8_thing 26 = .ok (.iconst 4, 1) := by decide +kernel
theorem dX8_thing_27 : decode cX8_thing 27 = .ok (.if_icmp .ge 53, 3) := by decide +kernel
theorem dX8_thing_30 : decode cX8_thing 30 = .ok (.iload_n 2, 1) := by decide +kernel
theorem dX8_thing_31 : decode cX8_thing 31 = .ok (.ifCond .ne 12, 3) := by decide +kernel
theorem dX8_thing_34 : decode cX8_thing 34 = .ok (.aload_n 0, 1) := by decide +kernel
theorem dX8_thing_35 : decode cX8_thing 35 = .ok (.getfield 16, 3) := by decide +kernel
theorem dX8_thing_38 : decode cX8_thing 38 = .ok (.iload_n 1, 1) := by decide +kernel
theorem dX8_thing_39 : decode cX8_thing 39 = .ok (.iaload, 1) := by decide +kernel
theorem dX8_thing_40 : decode cX8_thing 40 = .ok (.goto 39, 3) := by decide +kernel
theorem dX8_thing_43 : decode cX8_thing 43 = .ok (.iload_n 2, 1) := by decide +kernel
theorem dX8_thing_44 : decode cX8_thing 44 = .ok (.iconst 1, 1) := by decide +kernel
theorem dX8_thing_45 : decode cX8_thing 45 = .ok (.if_icmp .ne 12, 3) := by decide +kernel
theorem dX8_thing_48 : decode cX8_thing 48 = .ok (.aload_n 0, 1) := by decide +kernel
theorem dX8_thing_49 : decode cX8_thing 49 = .ok (.getfield 19, 3) := by decide +kernel
theorem dX8_thing_52 : decode cX8_thing 52 = .ok (.iload_n 1, 1) := by decide +kernel
theorem dX8_thing_53 : decode cX8_thing 53 = .ok (.iaload, 1) := by decide +kernel
theorem dX8_thing_54 : decode cX8_thing 54 = .ok (.goto 25, 3) := by decide +kernel
theorem dX8_thing_57 : decode cX8_thing 57 = .ok (.iload_n 2, 1) := by decide +kernel
theorem dX8_thing_58 : decode cX8_thing 58 = .ok (.iconst 2, 1) := by decide +kernel
theorem dX8_thing_59 : decode cX8_thing 59 = .ok (.if_icmp .ne 12, 3) := by decide +kernel
theorem dX8_thing_62 : decode cX8_thing 62 = .ok (.aload_n 0, 1) := by decide +kernel
theorem dX8_thing_63 : decode cX8_thing 63 = .ok (.getfield 22, 3) := by decide +kernel
theorem dX8_thing_66 : decode cX8_thing 66 = .ok (.iload_n 1, 1) := by decide +kernel
theorem dX8_thing_67 : decode cX8_thing 67 = .ok (.iaload, 1) := by decide +kernel
theorem dX8_thing_68 : decode cX8_thing 68 = .ok (.goto 11, 3) := by decide +kernel
theorem dX8_thing_71 : decode cX8_thing 71 = .ok (.aload_n 0, 1) := by decide +kernel
theorem dX8_thing_72 : decode cX8_thing 72 = .ok (.getfield 28, 3) := by decide +kernel
theorem dX8_thing_75 : decode cX8_thing 75 = .ok (.iconst 0, 1) := by decide +kernel
theorem dX8_thing_76 : decode cX8_thing 76 = .ok (.iload_n 1, 1) := by decide +kernel
theorem dX8_thing_77 : decode cX8_thing 77 = .ok (.iadd, 1) := by decide +kernel
theorem dX8_thing_78 : decode cX8_thing 78 = .ok (.iaload, 1) := by decide +kernel
theorem dX8_thing_79 : decode cX8_thing 79 = .ok (.ireturn, 1) := by decide +kernel
theorem dX8_thing_80 : decode cX8_thing 80 = .ok (.iload_n 2, 1) := by decide +kernel
theorem dX8_thing_81 : decode cX8_thing 81 = .ok (.iconst 4, 1) := by decide +kernel
theorem dX8_thing_82 : decode cX8_thing 82 = .ok (.if_icmp .ne 17, 3) := by decide +kernel
theorem dX8_thing_85 : decode cX8_thing 85 = .ok (.aload_n 0, 1) := by decide +kernel
theorem dX8_thing_86 : decode cX8_thing 86 = .ok (.getfield 28, 3) := by decide +kernel
theorem dX8_thing_89 : decode cX8_thing 89 = .ok (.bipush 14, 2) := by decide +kernel
theorem dX8_thing_91 : decode cX8_thing 91 = .ok (.iaload, 1) := by decide +kernel
theorem dX8_thing_92 : decode cX8_thing 92 = .ok (.iload_n 1, 1) := by decide +kernel
theorem dX8_thing_93 : decode cX8_thing 93 = .ok (.ishr, 1) := by decide +kernel
theorem dX8_thing_94 : decode cX8_thing 94 = .ok (.iconst 1, 1) := by decide +kernel
theorem dX8_thing_95 : decode cX8_thing 95 = .ok (.iand, 1) := by decide +kernel
theorem dX8_thing_96 : decode cX8_thing 96 = .ok (.goto 57, 3) := by decide +kernel
theorem dX8_thing_99 : decode cX8_thing 99 = .ok (.iload_n 2, 1) := by decide +kernel
theorem dX8_thing_100 : decode cX8_thing 100 = .ok (.iconst 5, 1) := by decide +kernel
theorem dX8_thing_101 : decode cX8_thing 101 = .ok (.if_icmp .ne 17, 3) := by decide +kernel
theorem dX8_thing_104 : decode cX8_thing 104 = .ok (.aload_n 0, 1) := by decide +kernel
theorem dX8_thing_105 : decode cX8_thing 105 = .ok (.getfield 28, 3) := by decide +kernel
theorem dX8_thing_108 : decode cX8_thing 108 = .ok (.bipush 15, 2) := by decide +kernel
theorem dX8_thing_110 : decode cX8_thing 110 = .ok (.iaload, 1) := by decide +kernel
theorem dX8_thing_111 : decode cX8_thing 111 = .ok (.iload_n 1, 1) := by decide +kernel
theorem dX8_thing_112 : decode cX8_thing 112 = .ok (.ishr, 1) := by decide +kernel
theorem dX8_thing_113 : decode cX8_thing 113 = .ok (.iconst 1, 1) := by decide +kernel
theorem dX8_thing_114 : decode cX8_thing 114 = .ok (.iand, 1) := by decide +kernel
theorem dX8_thing_115 : decode cX8_thing 115 = .ok (.goto 38, 3) := by decide +kernel
theorem dX8_thing_118 : decode cX8_thing 118 = .ok (.iload_n 2, 1) := by decide +kernel
theorem dX8_thing_119 : decode cX8_thing 119 = .ok (.bipush 6, 2) := by decide +kernel
theorem dX8_thing_121 : decode cX8_thing 121 = .ok (.if_icmp .ne 15, 3) := by decide +kernel
theorem dX8_thing_124 : decode cX8_thing 124 = .ok (.aload_n 0, 1) := by decide +kernel
theorem dX8_thing_125 : decode cX8_thing 125 = .ok (.getfield 28, 3) := by decide +kernel
theorem dX8_thing_128 : decode cX8_thing 128 = .ok (.bipush 7, 2) := by decide +kernel
theorem dX8_thing_130 : decode cX8_thing 130 = .ok (.iload_n 1, 1) := by decide +kernel
theorem dX8_thing_131 : decode cX8_thing 131 = .ok (.iadd, 1) := by decide +kernel
theorem dX8_thing_132 : decode cX8_thing 132 = .ok (.iaload, 1) := by decide +kernel
theorem dX8_thing_133 : decode cX8_thing 133 = .ok (.goto 20, 3) := by decide +kernel
theorem dX8_thing_136 : decode cX8_thing 136 = .ok (.aload_n 0, 1) := by decide +kernel
theorem dX8_thing_137 : decode cX8_thing 137 = .ok (.aload_n 0, 1) := by decide +kernel
theorem dX8_thing_138 : decode cX8_thing 138 = .ok (.getfield 28, 3) := by decide +kernel
theorem dX8_thing_141 : decode cX8_thing 141 = .ok (.iload_n 1, 1) := by decide +kernel
theorem dX8_thing_142 : decode cX8_thing 142 = .ok (.invokevirtual 112, 3) := by decide +kernel
theorem dX8_thing_145 : decode cX8_thing 145 = .ok (.ifCond .eq 7, 3) := by decide +kernel
theorem dX8_thing_148 : decode cX8_thing 148 = .ok (.iconst 1, 1) := by decide +kernel
theorem dX8_thing_149 : decode cX8_thing 149 = .ok (.goto 4, 3) := by decide +kernel
theorem dX8_thing_152 : decode cX8_thing 152 = .ok (.iconst 0, 1) := by decide +kernel
theorem dX8_thing_153 : decode cX8_thing 153 = .ok (.ireturn, 1) := by decide +kernel
theorem dX8_heldBy_0 : decode cX8_heldBy 0 = .ok (.iconst 0, 1) := by decide +kernel
theorem dX8_heldBy_1 : decode cX8_heldBy 1 = .ok (.istore_n 2, 1) := by decide +kernel
theorem dX8_heldBy_2 : decode cX8_heldBy 2 = .ok (.iconst 0, 1) := by decide +kernel
theorem dX8_heldBy_3 : decode cX8_heldBy 3 = .ok (.istore_n 3, 1) := by decide +kernel
theorem dX8_heldBy_4 : decode cX8_heldBy 4 = .ok (.iload_n 3, 1) := by decide +kernel
theorem dX8_heldBy_5 : decode cX8_heldBy 5 = .ok (.aload_n 0, 1) := by decide +kernel
theorem dX8_heldBy_6 : decode cX8_heldBy 6 = .ok (.getfield 13, 3) := by decide +kernel
theorem dX8_heldBy_9 : decode cX8_heldBy 9 = .ok (.iconst 0, 1) := by decide +kernel
theorem dX8_heldBy_10 : decode cX8_heldBy 10 = .ok (.iaload, 1) := by decide +kernel
theorem dX8_heldBy_11 : decode cX8_heldBy 11 = .ok (.if_icmp .ge 31, 3) := by decide +kernel
theorem dX8_heldBy_14 : decode cX8_heldBy 14 = .ok (.iload_n 2, 1) := by decide +kernel
theorem dX8_heldBy_15 : decode cX8_heldBy 15 = .ok (.aload_n 0, 1) := by decide +kernel
theorem dX8_heldBy_16 : decode cX8_heldBy 16 = .ok (.getfield 28, 3) := by decide +kernel
theorem dX8_heldBy_19 : decode cX8_heldBy 19 = .ok (.iconst 0, 1) := by decide +kernel
theorem dX8_heldBy_20 : decode cX8_heldBy 20 = .ok (.iload_n 3, 1) := by decide +kernel
theorem dX8_heldBy_21 : decode cX8_heldBy 21 = .ok (.iadd, 1) := by decide +kernel
theorem dX8_heldBy_22 : decode cX8_heldBy 22 = .ok (.iaload, 1) := by decide +kernel
theorem dX8_heldBy_23 : decode cX8_heldBy 23 = .ok (.iload_n 1, 1) := by decide +kernel
theorem dX8_heldBy_24 : decode cX8_heldBy 24 = .ok (.if_icmp .ne 9, 3) := by decide +kernel
theorem dX8_heldBy_27 : decode cX8_heldBy 27 = .ok (.iconst 1, 1) := by decide +kernel
theorem dX8_heldBy_28 : decode cX8_heldBy 28 = .ok (.iload_n 3, 1) := by decide +kernel
theorem dX8_heldBy_29 : decode cX8_heldBy 29 = .ok (.ishl, 1) := by decide +kernel
theorem dX8_heldBy_30 : decode cX8_heldBy 30 = .ok (.goto 4, 3) := by decide +kernel
theorem dX8_heldBy_33 : decode cX8_heldBy 33 = .ok (.iconst 0, 1) := by decide +kernel
theorem dX8_heldBy_34 : decode cX8_heldBy 34 = .ok (.ior, 1) := by decide +kernel
theorem dX8_heldBy_35 : decode cX8_heldBy 35 = .ok (.istore_n 2, 1) := by decide +kernel
theorem dX8_heldBy_36 : decode cX8_heldBy 36 = .ok (.iinc 3 1, 3) := by decide +kernel
theorem dX8_heldBy_39 : decode cX8_heldBy 39 = .ok (.goto (-35), 3) := by decide +kernel
theorem dX8_heldBy_42 : decode cX8_heldBy 42 = .ok (.iload_n 2, 1) := by decide +kernel
theorem dX8_heldBy_43 : decode cX8_heldBy 43 = .ok (.ireturn, 1) := by decide +kernel
set_option maxRecDepth 20000 in
theorem ggX8_officer_X8_isOfficer : GoodIn wsX8_officer wsX8_isOfficer := goodIn_r _ [7, 8, 9, 10, 6, 11, 30, 31, 32, 33, 34, 35, 36, 37, 38, 39, 40, 41, 42, 43, 44, 45, 46, 47, 48, 49, 50, 51, 52, 53] (by decide +kernel) (by decide +kernel)
set_option maxRecDepth 20000 in
theorem gX8_officer_X8_isOfficer : GoodIn wsX8_officer (wsV RX8 135 RX8 yX8_isOfficer wsX8_isOfficer) := goodIn_app (goodIn_of _ (by decide +kernel)) ggX8_officer_X8_isOfficer
set_option maxRecDepth 20000 in
theorem ggX8_officer_X8_in : GoodIn wsX8_officer wsX8_in := goodIn_r _ [11] (by decide +kernel) (by decide +kernel)
set_option maxRecDepth 20000 in
theorem gX8_officer_X8_in : GoodIn wsX8_officer (va_wsS RX8 54 yX8_in wsX8_in) := goodIn_app (goodIn_of _ (by decide +kernel)) ggX8_officer_X8_in
set_option maxRecDepth 20000 in
theorem ggX8_officer_X8_heldBy : GoodIn wsX8_officer wsX8_heldBy := goodIn_r _ [15, 8, 2, 30, 31, 32, 33, 34, 35, 36, 37, 38, 39, 40, 41, 42, 43, 44, 45, 46, 47, 48, 49, 50, 51, 52, 53] (by decide +kernel) (by decide +kernel)
set_option maxRecDepth 20000 in
theorem gX8_officer_X8_heldBy : GoodIn wsX8_officer (wsV RX8 138 RX8 yX8_heldBy wsX8_heldBy) := goodIn_app (goodIn_of _ (by decide +kernel)) ggX8_officer_X8_heldBy
set_option maxRecDepth 20000 in
theorem ggX8_officer_X8_voices : GoodIn wsX8_officer wsX8_voices := goodIn_r _ [19, 8, 20, 21, 22, 6, 23, 24, 30, 31, 32, 33, 34, 35, 36, 37, 38, 39, 40, 41, 42, 43, 44, 45, 46, 47, 48, 49, 50, 51, 52, 53] (by decide +kernel) (by decide +kernel)
set_option maxRecDepth 20000 in
theorem gX8_officer_X8_voices : GoodIn wsX8_officer (wsV RX8 119 RX8 yX8_voices wsX8_voices) := goodIn_app (goodIn_of _ (by decide +kernel)) ggX8_officer_X8_voices
set_option maxRecDepth 20000 in
theorem ggX8_officer_X8_votesOf : GoodIn wsX8_officer wsX8_votesOf := goodIn_r _ [28, 8, 29, 30, 31, 32, 33, 34, 35, 36, 37, 38, 39, 40, 41, 42, 43, 44, 45, 46, 47, 48, 49, 50, 51, 52, 53] (by decide +kernel) (by decide +kernel)
set_option maxRecDepth 20000 in
theorem gX8_officer_X8_votesOf : GoodIn wsX8_officer (wsV RX8 116 RX8 yX8_votesOf wsX8_votesOf) := goodIn_app (goodIn_of _ (by decide +kernel)) ggX8_officer_X8_votesOf
theorem dX8_officer_0 : decode cX8_officer 0 = .ok (.aload_n 0, 1) := by decide +kernel
theorem dX8_officer_1 : decode cX8_officer 1 = .ok (.iconst 0, 1) := by decide +kernel
theorem dX8_officer_2 : decode cX8_officer 2 = .ok (.putfield 50, 3) := by decide +kernel
theorem dX8_officer_5 : decode cX8_officer 5 = .ok (.aload_n 0, 1) := by decide +kernel
theorem dX8_officer_6 : decode cX8_officer 6 = .ok (.iload_n 1, 1) := by decide +kernel
theorem dX8_officer_7 : decode cX8_officer 7 = .ok (.invokevirtual 135, 3) := by decide +kernel
theorem dX8_officer_10 : decode cX8_officer 10 = .ok (.ifCond .eq 12, 3) := by decide +kernel
theorem dX8_officer_13 : decode cX8_officer 13 = .ok (.iload_n 2, 1) := by decide +kernel
theorem dX8_officer_14 : decode cX8_officer 14 = .ok (.iconst 0, 1) := by decide +kernel
theorem dX8_officer_15 : decode cX8_officer 15 = .ok (.iconst 2, 1) := by decide +kernel
theorem dX8_officer_16 : decode cX8_officer 16 = .ok (.invokestatic 54, 3) := by decide +kernel
theorem dX8_officer_19 : decode cX8_officer 19 = .ok (.ifCond .ne 5, 3) := by decide +kernel
theorem dX8_officer_22 : decode cX8_officer 22 = .ok (.iconst (-1), 1) := by decide +kernel
theorem dX8_officer_23 : decode cX8_officer 23 = .ok (.ireturn, 1) := by decide +kernel
theorem dX8_officer_24 : decode cX8_officer 24 = .ok (.iload_n 2, 1) := by decide +kernel
theorem dX8_officer_25 : decode cX8_officer 25 = .ok (.ifCond .ne 17, 3) := by decide +kernel
theorem dX8_officer_28 : decode cX8_officer 28 = .ok (.aload_n 0, 1) := by decide +kernel
theorem dX8_officer_29 : decode cX8_officer 29 = .ok (.getfield 28, 3) := by decide +kernel
theorem dX8_officer_32 : decode cX8_officer 32 = .ok (.bipush 16, 2) := by decide +kernel
theorem dX8_officer_34 : decode cX8_officer 34 = .ok (.iaload, 1) := by decide +kernel
theorem dX8_officer_35 : decode cX8_officer 35 = .ok (.iload_n 1, 1) := by decide +kernel
theorem dX8_officer_36 : decode cX8_officer 36 = .ok (.ishr, 1) := by decide +kernel
theorem dX8_officer_37 : decode cX8_officer 37 = .ok (.iconst 1, 1) := by decide +kernel
theorem dX8_officer_38 : decode cX8_officer 38 = .ok (.iand, 1) := by decide +kernel
theorem dX8_officer_39 : decode cX8_officer 39 = .ok (.goto 34, 3) := by decide +kernel
theorem dX8_officer_42 : decode cX8_officer 42 = .ok (.iload_n 2, 1) := by decide +kernel
theorem dX8_officer_43 : decode cX8_officer 43 = .ok (.iconst 1, 1) := by decide +kernel
theorem dX8_officer_44 : decode cX8_officer 44 = .ok (.if_icmp .ne 11, 3) := by decide +kernel
theorem dX8_officer_47 : decode cX8_officer 47 = .ok (.aload_n 0, 1) := by decide +kernel
theorem dX8_officer_48 : decode cX8_officer 48 = .ok (.iload_n 1, 1) := by decide +kernel
theorem dX8_officer_49 : decode cX8_officer 49 = .ok (.invokevirtual 138, 3) := by decide +kernel
theorem dX8_officer_52 : decode cX8_officer 52 = .ok (.goto 21, 3) := by decide +kernel
theorem dX8_officer_55 : decode cX8_officer 55 = .ok (.aload_n 0, 1) := by decide +kernel
theorem dX8_officer_56 : decode cX8_officer 56 = .ok (.aload_n 0, 1) := by decide +kernel
theorem dX8_officer_57 : decode cX8_officer 57 = .ok (.iload_n 1, 1) := by decide +kernel
theorem dX8_officer_58 : decode cX8_officer 58 = .ok (.invokevirtual 138, 3) := by decide +kernel
theorem dX8_officer_61 : decode cX8_officer 61 = .ok (.aload_n 0, 1) := by decide +kernel
theorem dX8_officer_62 : decode cX8_officer 62 = .ok (.aload_n 0, 1) := by decide +kernel
theorem dX8_officer_63 : decode cX8_officer 63 = .ok (.getfield 28, 3) := by decide +kernel
theorem dX8_officer_66 : decode cX8_officer 66 = .ok (.invokevirtual 119, 3) := by decide +kernel
theorem dX8_officer_69 : decode cX8_officer 69 = .ok (.iand, 1) := by decide +kernel
theorem dX8_officer_70 : decode cX8_officer 70 = .ok (.invokevirtual 116, 3) := by decide +kernel
theorem dX8_officer_73 : decode cX8_officer 73 = .ok (.ireturn, 1) := by decide +kernel
set_option maxRecDepth 20000 in
theorem ggX8_bill_X8_isBill : GoodIn wsX8_bill wsX8_isBill := goodIn_r _ [6, 7, 8, 5, 9] (by decide +kernel) (by decide +kernel)
set_option maxRecDepth 20000 in
theorem gX8_bill_X8_isBill : GoodIn wsX8_bill (va_wsS RX8 141 yX8_isBill wsX8_isBill) := goodIn_app (goodIn_of _ (by decide +kernel)) ggX8_bill_X8_isBill
set_option maxRecDepth 20000 in
theorem ggX8_bill_X8_in : GoodIn wsX8_bill wsX8_in := goodIn_r _ [9] (by decide +kernel) (by decide +kernel)
set_option maxRecDepth 20000 in
theorem gX8_bill_X8_in : GoodIn wsX8_bill (va_wsS RX8 54 yX8_in wsX8_in) := goodIn_app (goodIn_of _ (by decide +kernel)) ggX8_bill_X8_in
set_option maxRecDepth 20000 in
theorem ggX8_bill_X8_voices : GoodIn wsX8_bill wsX8_voices := goodIn_r _ [13, 14, 15, 16, 17, 5, 18, 19, 38, 39, 40, 41, 42, 43, 44, 45, 46, 47, 48, 49, 50, 51, 52, 53, 54, 55, 56, 57, 58, 59, 60, 61] (by decide +kernel) (by decide +kernel)
set_option maxRecDepth 20000 in
theorem gX8_bill_X8_voices : GoodIn wsX8_bill (wsV RX8 119 RX8 yX8_voices wsX8_voices) := goodIn_app (goodIn_of _ (by decide +kernel)) ggX8_bill_X8_voices
set_option maxRecDepth 20000 in
theorem ggX8_bill_X8_saysYes : GoodIn wsX8_bill wsX8_saysYes := goodIn_r _ [23, 14, 24, 38, 39, 40, 41, 42, 43, 44, 45, 46, 47, 48, 49, 50, 51, 52, 53, 54, 55, 56, 57, 58, 59, 60, 61] (by decide +kernel) (by decide +kernel)
set_option maxRecDepth 20000 in
theorem gX8_bill_X8_saysYes : GoodIn wsX8_bill (wsV RX8 123 RX8 yX8_saysYes wsX8_saysYes) := goodIn_app (goodIn_of _ (by decide +kernel)) ggX8_bill_X8_saysYes
set_option maxRecDepth 20000 in
theorem ggX8_bill_X8_votesOf : GoodIn wsX8_bill wsX8_votesOf := goodIn_r _ [28, 14, 29, 38, 39, 40, 41, 42, 43, 44, 45, 46, 47, 48, 49, 50, 51, 52, 53, 54, 55, 56, 57, 58, 59, 60, 61] (by decide +kernel) (by decide +kernel)
set_option maxRecDepth 20000 in
theorem gX8_bill_X8_votesOf : GoodIn wsX8_bill (wsV RX8 116 RX8 yX8_votesOf wsX8_votesOf) := goodIn_app (goodIn_of _ (by decide +kernel)) ggX8_bill_X8_votesOf
set_option maxRecDepth 20000 in
theorem ggX8_bill_X8_passes : GoodIn wsX8_bill wsX8_passes := goodIn_r _ [33, 10, 11, 12, 5, 13, 14, 15, 16, 17, 18, 19, 20, 21, 22, 23, 24, 34, 35, 36, 37, 25, 26, 27, 28, 29, 38, 39, 40, 41, 42, 43, 44, 45, 46, 47, 48, 49, 50, 51, 52, 53, 54, 55, 56, 57, 58, 59, 60, 61] (by decide +kernel) (by decide +kernel)
set_option maxRecDepth 20000 in
theorem gX8_bill_X8_passes : GoodIn wsX8_bill (wsV RX8 144 RX8 yX8_passes wsX8_passes) := goodIn_app (goodIn_of _ (by decide +kernel)) ggX8_bill_X8_passes
theorem dX8_bill_0 : decode cX8_bill 0 = .ok (.aload_n 0, 1) := by decide +kernel
theorem dX8_bill_1 : decode cX8_bill 1 = .ok (.iconst 0, 1) := by decide +kernel
theorem dX8_bill_2 : decode cX8_bill 2 = .ok (.putfield 50, 3) := by decide +kernel
theorem dX8_bill_5 : decode cX8_bill 5 = .ok (.iload_n 1, 1) := by decide +kernel
theorem dX8_bill_6 : decode cX8_bill 6 = .ok (.invokestatic 141, 3) := by decide +kernel
theorem dX8_bill_9 : decode cX8_bill 9 = .ok (.ifCond .eq 12, 3) := by decide +kernel
theorem dX8_bill_12 : decode cX8_bill 12 = .ok (.iload_n 2, 1) := by decide +kernel
theorem dX8_bill_13 : decode cX8_bill 13 = .ok (.iconst 0, 1) := by decide +kernel
theorem dX8_bill_14 : decode cX8_bill 14 = .ok (.iconst 3, 1) := by decide +kernel
theorem dX8_bill_15 : decode cX8_bill 15 = .ok (.invokestatic 54, 3) := by decide +kernel
theorem dX8_bill_18 : decode cX8_bill 18 = .ok (.ifCond .ne 5, 3) := by decide +kernel
theorem dX8_bill_21 : decode cX8_bill 21 = .ok (.iconst (-1), 1) := by decide +kernel
theorem dX8_bill_22 : decode cX8_bill 22 = .ok (.ireturn, 1) := by decide +kernel
theorem dX8_bill_23 : decode cX8_bill 23 = .ok (.aload_n 0, 1) := by decide +kernel
theorem dX8_bill_24 : decode cX8_bill 24 = .ok (.aload_n 0, 1) := by decide +kernel
theorem dX8_bill_25 : decode cX8_bill 25 = .ok (.getfield 28, 3) := by decide +kernel
theorem dX8_bill_28 : decode cX8_bill 28 = .ok (.invokevirtual 119, 3) := by decide +kernel
theorem dX8_bill_31 : decode cX8_bill 31 = .ok (.aload_n 0, 1) := by decide +kernel
theorem dX8_bill_32 : decode cX8_bill 32 = .ok (.aload_n 0, 1) := by decide +kernel
theorem dX8_bill_33 : decode cX8_bill 33 = .ok (.getfield 28, 3) := by decide +kernel
theorem dX8_bill_36 : decode cX8_bill 36 = .ok (.iload_n 1, 1) := by decide +kernel
theorem dX8_bill_37 : decode cX8_bill 37 = .ok (.invokevirtual 123, 3) := by decide +kernel
theorem dX8_bill_40 : decode cX8_bill 40 = .ok (.iand, 1) := by decide +kernel
theorem dX8_bill_41 : decode cX8_bill 41 = .ok (.istore_n 3, 1) := by decide +kernel
theorem dX8_bill_42 : decode cX8_bill 42 = .ok (.aload_n 0, 1) := by decide +kernel
theorem dX8_bill_43 : decode cX8_bill 43 = .ok (.aload_n 0, 1) := by decide +kernel
theorem dX8_bill_44 : decode cX8_bill 44 = .ok (.getfield 28, 3) := by decide +kernel
theorem dX8_bill_47 : decode cX8_bill 47 = .ok (.invokevirtual 119, 3) := by decide +kernel
theorem dX8_bill_50 : decode cX8_bill 50 = .ok (.aload_n 0, 1) := by decide +kernel
theorem dX8_bill_51 : decode cX8_bill 51 = .ok (.aload_n 0, 1) := by decide +kernel
theorem dX8_bill_52 : decode cX8_bill 52 = .ok (.getfield 28, 3) := by decide +kernel
theorem dX8_bill_55 : decode cX8_bill 55 = .ok (.iload_n 1, 1) := by decide +kernel
theorem dX8_bill_56 : decode cX8_bill 56 = .ok (.invokevirtual 123, 3) := by decide +kernel
theorem dX8_bill_59 : decode cX8_bill 59 = .ok (.iconst (-1), 1) := by decide +kernel
theorem dX8_bill_60 : decode cX8_bill 60 = .ok (.ixor, 1) := by decide +kernel
theorem dX8_bill_61 : decode cX8_bill 61 = .ok (.iand, 1) := by decide +kernel
theorem dX8_bill_62 : decode cX8_bill 62 = .ok (.istore 4, 2) := by decide +kernel
theorem dX8_bill_64 : decode cX8_bill 64 = .ok (.iload_n 2, 1) := by decide +kernel
theorem dX8_bill_65 : decode cX8_bill 65 = .ok (.ifCond .ne 11, 3) := by decide +kernel
theorem dX8_bill_68 : decode cX8_bill 68 = .ok (.aload_n 0, 1) := by decide +kernel
theorem dX8_bill_69 : decode cX8_bill 69 = .ok (.iload_n 3, 1) := by decide +kernel
theorem dX8_bill_70 : decode cX8_bill 70 = .ok (.invokevirtual 116, 3) := by decide +kernel
theorem dX8_bill_73 : decode cX8_bill 73 = .ok (.goto 43, 3) := by decide +kernel
theorem dX8_bill_76 : decode cX8_bill 76 = .ok (.iload_n 2, 1) := by decide +kernel
theorem dX8_bill_77 : decode cX8_bill 77 = .ok (.iconst 1, 1) := by decide +kernel
theorem dX8_bill_78 : decode cX8_bill 78 = .ok (.if_icmp .ne 12, 3) := by decide +kernel
theorem dX8_bill_81 : decode cX8_bill 81 = .ok (.aload_n 0, 1) := by decide +kernel
theorem dX8_bill_82 : decode cX8_bill 82 = .ok (.iload 4, 2) := by decide +kernel
theorem dX8_bill_84 : decode cX8_bill 84 = .ok (.invokevirtual 116, 3) := by decide +kernel
theorem dX8_bill_87 : decode cX8_bill 87 = .ok (.goto 29, 3) := by decide +kernel
theorem dX8_bill_90 : decode cX8_bill 90 = .ok (.iload_n 2, 1) := by decide +kernel
theorem dX8_bill_91 : decode cX8_bill 91 = .ok (.iconst 2, 1) := by decide +kernel
theorem dX8_bill_92 : decode cX8_bill 92 = .ok (.if_icmp .ne 23, 3) := by decide +kernel
theorem dX8_bill_95 : decode cX8_bill 95 = .ok (.aload_n 0, 1) := by decide +kernel
theorem dX8_bill_96 : decode cX8_bill 96 = .ok (.aload_n 0, 1) := by decide +kernel
theorem dX8_bill_97 : decode cX8_bill 97 = .ok (.getfield 28, 3) := by decide +kernel
theorem dX8_bill_100 : decode cX8_bill 100 = .ok (.iload_n 1, 1) := by decide +kernel
theorem dX8_bill_101 : decode cX8_bill 101 = .ok (.invokevirtual 144, 3) := by decide +kernel
theorem dX8_bill_104 : decode cX8_bill 104 = .ok (.ifCond .eq 7, 3) := by decide +kernel
theorem dX8_bill_107 : decode cX8_bill 107 = .ok (.iconst 1, 1) := by decide +kernel
theorem dX8_bill_108 : decode cX8_bill 108 = .ok (.goto 8, 3) := by decide +kernel
theorem dX8_bill_111 : decode cX8_bill 111 = .ok (.iconst 0, 1) := by decide +kernel
theorem dX8_bill_112 : decode cX8_bill 112 = .ok (.goto 4, 3) := by decide +kernel
theorem dX8_bill_115 : decode cX8_bill 115 = .ok (.iload_n 3, 1) := by decide +kernel
theorem dX8_bill_116 : decode cX8_bill 116 = .ok (.ireturn, 1) := by decide +kernel
set_option maxRecDepth 20000 in
theorem ggX8_most_X8_heldBy : GoodIn wsX8_most wsX8_heldBy := goodIn_r _ [7, 1, 2, 22, 23, 24, 25, 26, 27, 28, 29, 30, 31, 32, 33, 34, 35, 36, 37, 38, 39, 40, 41, 42, 43, 44, 45] (by decide +kernel) (by decide +kernel)
set_option maxRecDepth 20000 in
theorem gX8_most_X8_heldBy : GoodIn wsX8_most (wsV RX8 138 RX8 yX8_heldBy wsX8_heldBy) := goodIn_app (goodIn_of _ (by decide +kernel)) ggX8_most_X8_heldBy
set_option maxRecDepth 20000 in
theorem ggX8_most_X8_voices : GoodIn wsX8_most wsX8_voices := goodIn_r _ [11, 1, 12, 13, 14, 6, 15, 16, 22, 23, 24, 25, 26, 27, 28, 29, 30, 31, 32, 33, 34, 35, 36, 37, 38, 39, 40, 41, 42, 43, 44, 45] (by decide +kernel) (by decide +kernel)
set_option maxRecDepth 20000 in
theorem gX8_most_X8_voices : GoodIn wsX8_most (wsV RX8 119 RX8 yX8_voices wsX8_voices) := goodIn_app (goodIn_of _ (by decide +kernel)) ggX8_most_X8_voices
set_option maxRecDepth 20000 in
theorem ggX8_most_X8_votesOf : GoodIn wsX8_most wsX8_votesOf := goodIn_r _ [20, 1, 21, 22, 23, 24, 25, 26, 27, 28, 29, 30, 31, 32, 33, 34, 35, 36, 37, 38, 39, 40, 41, 42, 43, 44, 45] (by decide +kernel) (by decide +kernel)
set_option maxRecDepth 20000 in
theorem gX8_most_X8_votesOf : GoodIn wsX8_most (wsV RX8 116 RX8 yX8_votesOf wsX8_votesOf) := goodIn_app (goodIn_of _ (by decide +kernel)) ggX8_most_X8_votesOf
theorem dX8_most_0 : decode cX8_most 0 = .ok (.iconst 0, 1) := by decide +kernel
theorem dX8_most_1 : decode cX8_most 1 = .ok (.istore_n 1, 1) := by decide +kernel
theorem dX8_most_2 : decode cX8_most 2 = .ok (.iconst 1, 1) := by decide +kernel
theorem dX8_most_3 : decode cX8_most 3 = .ok (.istore_n 2, 1) := by decide +kernel
theorem dX8_most_4 : decode cX8_most 4 = .ok (.iload_n 2, 1) := by decide +kernel
theorem dX8_most_5 : decode cX8_most 5 = .ok (.aload_n 0, 1) := by decide +kernel
theorem dX8_most_6 : decode cX8_most 6 = .ok (.getfield 13, 3) := by decide +kernel
theorem dX8_most_9 : decode cX8_most 9 = .ok (.iconst 1, 1) := by decide +kernel
theorem dX8_most_10 : decode cX8_most 10 = .ok (.iaload, 1) := by decide +kernel
theorem dX8_most_11 : decode cX8_most 11 = .ok (.if_icmp .ge 54, 3) := by decide +kernel
theorem dX8_most_14 : decode cX8_most 14 = .ok (.aload_n 0, 1) := by decide +kernel
theorem dX8_most_15 : decode cX8_most 15 = .ok (.aload_n 0, 1) := by decide +kernel
theorem dX8_most_16 : decode cX8_most 16 = .ok (.iload_n 2, 1) := by decide +kernel
theorem dX8_most_17 : decode cX8_most 17 = .ok (.invokevirtual 138, 3) := by decide +kernel
theorem dX8_most_20 : decode cX8_most 20 = .ok (.aload_n 0, 1) := by decide +kernel
theorem dX8_most_21 : decode cX8_most 21 = .ok (.aload_n 0, 1) := by decide +kernel
theorem dX8_most_22 : decode cX8_most 22 = .ok (.getfield 28, 3) := by decide +kernel
theorem dX8_most_25 : decode cX8_most 25 = .ok (.invokevirtual 119, 3) := by decide +kernel
theorem dX8_most_28 : decode cX8_most 28 = .ok (.iand, 1) := by decide +kernel
theorem dX8_most_29 : decode cX8_most 29 = .ok (.invokevirtual 116, 3) := by decide +kernel
theorem dX8_most_32 : decode cX8_most 32 = .ok (.aload_n 0, 1) := by decide +kernel
theorem dX8_most_33 : decode cX8_most 33 = .ok (.aload_n 0, 1) := by decide +kernel
theorem dX8_most_34 : decode cX8_most 34 = .ok (.iload_n 1, 1) := by decide +kernel
theorem dX8_most_35 : decode cX8_most 35 = .ok (.invokevirtual 138, 3) := by decide +kernel
theorem dX8_most_38 : decode cX8_most 38 = .ok (.aload_n 0, 1) := by decide +kernel
theorem dX8_most_39 : decode cX8_most 39 = .ok (.aload_n 0, 1) := by decide +kernel
theorem dX8_most_40 : decode cX8_most 40 = .ok (.getfield 28, 3) := by decide +kernel
theorem dX8_most_43 : decode cX8_most 43 = .ok (.invokevirtual 119, 3) := by decide +kernel
theorem dX8_most_46 : decode cX8_most 46 = .ok (.iand, 1) := by decide +kernel
theorem dX8_most_47 : decode cX8_most 47 = .ok (.invokevirtual 116, 3) := by decide +kernel
theorem dX8_most_50 : decode cX8_most 50 = .ok (.if_icmp .le 7, 3) := by decide +kernel
theorem dX8_most_53 : decode cX8_most 53 = .ok (.iload_n 2, 1) := by decide +kernel
theorem dX8_most_54 : decode cX8_most 54 = .ok (.goto 4, 3) := by decide +kernel
theorem dX8_most_57 : decode cX8_most 57 = .ok (.iload_n 1, 1) := by decide +kernel
theorem dX8_most_58 : decode cX8_most 58 = .ok (.istore_n 1, 1) := by decide +kernel
theorem dX8_most_59 : decode cX8_most 59 = .ok (.iinc 2 1, 3) := by decide +kernel
theorem dX8_most_62 : decode cX8_most 62 = .ok (.goto (-58), 3) := by decide +kernel
theorem dX8_most_65 : decode cX8_most 65 = .ok (.iload_n 1, 1) := by decide +kernel
theorem dX8_most_66 : decode cX8_most 66 = .ok (.ireturn, 1) := by decide +kernel
set_option maxRecDepth 20000 in
theorem ggX8_now_X8_in : GoodIn wsX8_now wsX8_in := goodIn_r _ [7] (by decide +kernel) (by decide +kernel)
set_option maxRecDepth 20000 in
theorem gX8_now_X8_in : GoodIn wsX8_now (va_wsS RX8 54 yX8_in wsX8_in) := goodIn_app (goodIn_of _ (by decide +kernel)) ggX8_now_X8_in
set_option maxRecDepth 20000 in
theorem ggX8_now_X8_voices : GoodIn wsX8_now wsX8_voices := goodIn_r _ [11, 12, 13, 14, 15, 6, 16, 17, 31, 32, 33, 34, 35, 36, 37, 38, 39, 40, 41, 42, 43, 44, 45, 46, 47, 48, 49, 50, 51, 52, 53, 54] (by decide +kernel) (by decide +kernel)
set_option maxRecDepth 20000 in
theorem gX8_now_X8_voices : GoodIn wsX8_now (wsV RX8 119 RX8 yX8_voices wsX8_voices) := goodIn_app (goodIn_of _ (by decide +kernel)) ggX8_now_X8_voices
set_option maxRecDepth 20000 in
theorem ggX8_now_X8_most : GoodIn wsX8_now wsX8_most := goodIn_r _ [21, 12, 2, 22, 23, 24, 6, 25, 8, 9, 10, 11, 13, 14, 15, 16, 17, 26, 27, 28, 29, 30, 31, 32, 33, 34, 35, 36, 37, 38, 39, 40, 41, 42, 43, 44, 45, 46, 47, 48, 49, 50, 51, 52, 53, 54] (by decide +kernel) (by decide +kernel)
set_option maxRecDepth 20000 in
theorem gX8_now_X8_most : GoodIn wsX8_now (wsV RX8 147 RX8 yX8_most wsX8_most) := goodIn_app (goodIn_of _ (by decide +kernel)) ggX8_now_X8_most
theorem dX8_now_0 : decode cX8_now 0 = .ok (.aload_n 0, 1) := by decide +kernel
theorem dX8_now_1 : decode cX8_now 1 = .ok (.iconst 0, 1) := by decide +kernel
theorem dX8_now_2 : decode cX8_now 2 = .ok (.putfield 50, 3) := by decide +kernel
theorem dX8_now_5 : decode cX8_now 5 = .ok (.iload_n 1, 1) := by decide +kernel
theorem dX8_now_6 : decode cX8_now 6 = .ok (.iconst 0, 1) := by decide +kernel
theorem dX8_now_7 : decode cX8_now 7 = .ok (.iconst 5, 1) := by decide +kernel
theorem dX8_now_8 : decode cX8_now 8 = .ok (.invokestatic 54, 3) := by decide +kernel
theorem dX8_now_11 : decode cX8_now 11 = .ok (.ifCond .ne 5, 3) := by decide +kernel
theorem dX8_now_14 : decode cX8_now 14 = .ok (.iconst (-1), 1) := by decide +kernel
theorem dX8_now_15 : decode cX8_now 15 = .ok (.ireturn, 1) := by decide +kernel
theorem dX8_now_16 : decode cX8_now 16 = .ok (.iload_n 1, 1) := by decide +kernel
theorem dX8_now_17 : decode cX8_now 17 = .ok (.iconst 2, 1) := by decide +kernel
theorem dX8_now_18 : decode cX8_now 18 = .ok (.if_icmp .ge 15, 3) := by decide +kernel
theorem dX8_now_21 : decode cX8_now 21 = .ok (.aload_n 0, 1) := by decide +kernel
theorem dX8_now_22 : decode cX8_now 22 = .ok (.getfield 28, 3) := by decide +kernel
theorem dX8_now_25 : decode cX8_now 25 = .ok (.bipush 17, 2) := by decide +kernel
theorem dX8_now_27 : decode cX8_now 27 = .ok (.iload_n 1, 1) := by decide +kernel
theorem dX8_now_28 : decode cX8_now 28 = .ok (.iadd, 1) := by decide +kernel
theorem dX8_now_29 : decode cX8_now 29 = .ok (.iaload, 1) := by decide +kernel
theorem dX8_now_30 : decode cX8_now 30 = .ok (.goto 50, 3) := by decide +kernel
theorem dX8_now_33 : decode cX8_now 33 = .ok (.iload_n 1, 1) := by decide +kernel
theorem dX8_now_34 : decode cX8_now 34 = .ok (.iconst 2, 1) := by decide +kernel
theorem dX8_now_35 : decode cX8_now 35 = .ok (.if_icmp .ne 14, 3) := by decide +kernel
theorem dX8_now_38 : decode cX8_now 38 = .ok (.aload_n 0, 1) := by decide +kernel
theorem dX8_now_39 : decode cX8_now 39 = .ok (.aload_n 0, 1) := by decide +kernel
theorem dX8_now_40 : decode cX8_now 40 = .ok (.getfield 28, 3) := by decide +kernel
theorem dX8_now_43 : decode cX8_now 43 = .ok (.invokevirtual 119, 3) := by decide +kernel
theorem dX8_now_46 : decode cX8_now 46 = .ok (.goto 34, 3) := by decide +kernel
theorem dX8_now_49 : decode cX8_now 49 = .ok (.iload_n 1, 1) := by decide +kernel
theorem dX8_now_50 : decode cX8_now 50 = .ok (.iconst 3, 1) := by decide +kernel
theorem dX8_now_51 : decode cX8_now 51 = .ok (.if_icmp .ne 13, 3) := by decide +kernel
theorem dX8_now_54 : decode cX8_now 54 = .ok (.aload_n 0, 1) := by decide +kernel
theorem dX8_now_55 : decode cX8_now 55 = .ok (.getfield 28, 3) := by decide +kernel
theorem dX8_now_58 : decode cX8_now 58 = .ok (.bipush 16, 2) := by decide +kernel
theorem dX8_now_60 : decode cX8_now 60 = .ok (.iaload, 1) := by decide +kernel
theorem dX8_now_61 : decode cX8_now 61 = .ok (.goto 19, 3) := by decide +kernel
theorem dX8_now_64 : decode cX8_now 64 = .ok (.iload_n 1, 1) := by decide +kernel
theorem dX8_now_65 : decode cX8_now 65 = .ok (.iconst 4, 1) := by decide +kernel
theorem dX8_now_66 : decode cX8_now 66 = .ok (.if_icmp .ne 10, 3) := by decide +kernel
theorem dX8_now_69 : decode cX8_now 69 = .ok (.aload_n 0, 1) := by decide +kernel
theorem dX8_now_70 : decode cX8_now 70 = .ok (.invokevirtual 147, 3) := by decide +kernel
theorem dX8_now_73 : decode cX8_now 73 = .ok (.goto 7, 3) := by decide +kernel
theorem dX8_now_76 : decode cX8_now 76 = .ok (.aload_n 0, 1) := by decide +kernel
theorem dX8_now_77 : decode cX8_now 77 = .ok (.getfield 109, 3) := by decide +kernel
theorem dX8_now_80 : decode cX8_now 80 = .ok (.ireturn, 1) := by decide +kernel
theorem dX8_notes_0 : decode cX8_notes 0 = .ok (.aload_n 0, 1) := by decide +kernel
theorem dX8_notes_1 : decode cX8_notes 1 = .ok (.getfield 109, 3) := by decide +kernel
theorem dX8_notes_4 : decode cX8_notes 4 = .ok (.bipush 10, 2) := by decide +kernel
theorem dX8_notes_6 : decode cX8_notes 6 = .ok (.if_icmp .ne 39, 3) := by decide +kernel
theorem dX8_notes_9 : decode cX8_notes 9 = .ok (.iconst 0, 1) := by decide +kernel
theorem dX8_notes_10 : decode cX8_notes 10 = .ok (.istore_n 1, 1) := by decide +kernel
theorem dX8_notes_11 : decode cX8_notes 11 = .ok (.iload_n 1, 1) := by decide +kernel
theorem dX8_notes_12 : decode cX8_notes 12 = .ok (.sipush 171, 3) := by decide +kernel
theorem dX8_notes_15 : decode cX8_notes 15 = .ok (.if_icmp .ge 24, 3) := by decide +kernel
theorem dX8_notes_18 : decode cX8_notes 18 = .ok (.aload_n 0, 1) := by decide +kernel
theorem dX8_notes_19 : decode cX8_notes 19 = .ok (.getfield 41, 3) := by decide +kernel
theorem dX8_notes_22 : decode cX8_notes 22 = .ok (.iload_n 1, 1) := by decide +kernel
theorem dX8_notes_23 : decode cX8_notes 23 = .ok (.aload_n 0, 1) := by decide +kernel
theorem dX8_notes_24 : decode cX8_notes 24 = .ok (.getfield 41, 3) := by decide +kernel
theorem dX8_notes_27 : decode cX8_notes 27 = .ok (.iload_n 1, 1) := by decide +kernel
theorem dX8_notes_28 : decode cX8_notes 28 = .ok (.bipush 19, 2) := by decide +kernel
theorem dX8_notes_30 : decode cX8_notes 30 = .ok (.iadd, 1) := by decide +kernel
theorem dX8_notes_31 : decode cX8_notes 31 = .ok (.iaload, 1) := by decide +kernel
theorem dX8_notes_32 : decode cX8_notes 32 = .ok (.iastore, 1) := by decide +kernel
theorem dX8_notes_33 : decode cX8_notes 33 = .ok (.iinc 1 1, 3) := by decide +kernel
theorem dX8_notes_36 : decode cX8_notes 36 = .ok (.goto (-25), 3) := by decide +kernel
theorem dX8_notes_39 : decode cX8_notes 39 = .ok (.aload_n 0, 1) := by decide +kernel
theorem dX8_notes_40 : decode cX8_notes 40 = .ok (.bipush 9, 2) := by decide +kernel
theorem dX8_notes_42 : decode cX8_notes 42 = .ok (.putfield 109, 3) := by decide +kernel
theorem dX8_notes_45 : decode cX8_notes 45 = .ok (.iconst 0, 1) := by decide +kernel
theorem dX8_notes_46 : decode cX8_notes 46 = .ok (.istore_n 1, 1) := by decide +kernel
theorem dX8_notes_47 : decode cX8_notes 47 = .ok (.iload_n 1, 1) := by decide +kernel
theorem dX8_notes_48 : decode cX8_notes 48 = .ok (.bipush 19, 2) := by decide +kernel
theorem dX8_notes_50 : decode cX8_notes 50 = .ok (.if_icmp .ge 29, 3) := by decide +kernel
theorem dX8_notes_53 : decode cX8_notes 53 = .ok (.aload_n 0, 1) := by decide +kernel
theorem dX8_notes_54 : decode cX8_notes 54 = .ok (.getfield 41, 3) := by decide +kernel
theorem dX8_notes_57 : decode cX8_notes 57 = .ok (.bipush 19, 2) := by decide +kernel
theorem dX8_notes_59 : decode cX8_notes 59 = .ok (.aload_n 0, 1) := by decide +kernel
theorem dX8_notes_60 : decode cX8_notes 60 = .ok (.getfield 109, 3) := by decide +kernel
theorem dX8_notes_63 : decode cX8_notes 63 = .ok (.imul, 1) := by decide +kernel
theorem dX8_notes_64 : decode cX8_notes 64 = .ok (.iload_n 1, 1) := by decide +kernel
theorem dX8_notes_65 : decode cX8_notes 65 = .ok (.iadd, 1) := by decide +kernel
theorem dX8_notes_66 : decode cX8_notes 66 = .ok (.aload_n 0, 1) := by decide +kernel
theorem dX8_notes_67 : decode cX8_notes 67 = .ok (.getfield 28, 3) := by decide +kernel
theorem dX8_notes_70 : decode cX8_notes 70 = .ok (.iload_n 1, 1) := by decide +kernel
theorem dX8_notes_71 : decode cX8_notes 71 = .ok (.iaload, 1) := by decide +kernel
theorem dX8_notes_72 : decode cX8_notes 72 = .ok (.iastore, 1) := by decide +kernel
theorem dX8_notes_73 : decode cX8_notes 73 = .ok (.iinc 1 1, 3) := by decide +kernel
theorem dX8_notes_76 : decode cX8_notes 76 = .ok (.goto (-29), 3) := by decide +kernel
theorem dX8_notes_79 : decode cX8_notes 79 = .ok (.aload_n 0, 1) := by decide +kernel
theorem dX8_notes_80 : decode cX8_notes 80 = .ok (.dup, 1) := by decide +kernel
theorem dX8_notes_81 : decode cX8_notes 81 = .ok (.getfield 109, 3) := by decide +kernel
theorem dX8_notes_84 : decode cX8_notes 84 = .ok (.iconst 1, 1) := by decide +kernel
theorem dX8_notes_85 : decode cX8_notes 85 = .ok (.iadd, 1) := by decide +kernel
theorem dX8_notes_86 : decode cX8_notes 86 = .ok (.putfield 109, 3) := by decide +kernel
theorem dX8_notes_89 : decode cX8_notes 89 = .ok (.return_, 1) := by decide +kernel
set_option maxRecDepth 20000 in
theorem ggX8_puts_X8_isBill : GoodIn wsX8_puts wsX8_isBill := goodIn_r _ [7, 8, 9, 6, 10] (by decide +kernel) (by decide +kernel)
set_option maxRecDepth 20000 in
theorem gX8_puts_X8_isBill : GoodIn wsX8_puts (va_wsS RX8 141 yX8_isBill wsX8_isBill) := goodIn_app (goodIn_of _ (by decide +kernel)) ggX8_puts_X8_isBill
set_option maxRecDepth 20000 in
theorem ggX8_puts_X8_notes : GoodIn wsX8_puts wsX8_notes := goodIn_r _ [14, 15, 16, 2, 44, 45, 46, 47, 48, 49, 50, 51, 52, 53, 54, 55, 56, 57, 58, 59, 60, 61, 62, 63, 64, 65, 66, 67] (by decide +kernel) (by decide +kernel)
set_option maxRecDepth 20000 in
theorem gX8_puts_X8_notes : GoodIn wsX8_puts (wsV RX8 151 RX8 yX8_notes wsX8_notes) := goodIn_app (goodIn_of _ (by decide +kernel)) ggX8_puts_X8_notes
set_option maxRecDepth 20000 in
theorem ggX8_puts_X8_passes : GoodIn wsX8_puts wsX8_passes := goodIn_r _ [20, 21, 22, 23, 6, 24, 3, 25, 26, 27, 28, 29, 30, 31, 32, 33, 34, 35, 36, 37, 38, 39, 40, 41, 42, 43, 44, 45, 46, 47, 48, 49, 50, 51, 52, 53, 54, 55, 56, 57, 58, 59, 60, 61, 62, 63, 64, 65, 66, 67] (by decide +kernel) (by decide +kernel)
set_option maxRecDepth 20000 in
theorem gX8_puts_X8_passes : GoodIn wsX8_puts (wsV RX8 144 RX8 yX8_passes wsX8_passes) := goodIn_app (goodIn_of _ (by decide +kernel)) ggX8_puts_X8_passes
theorem dX8_puts_0 : decode cX8_puts 0 = .ok (.aload_n 0, 1) := by decide +kernel
theorem dX8_puts_1 : decode cX8_puts 1 = .ok (.iconst 0, 1) := by decide +kernel
theorem dX8_puts_2 : decode cX8_puts 2 = .ok (.putfield 50, 3) := by decide +kernel
theorem dX8_puts_5 : decode cX8_puts 5 = .ok (.iload_n 1, 1) := by decide +kernel
theorem dX8_puts_6 : decode cX8_puts 6 = .ok (.invokestatic 141, 3) := by decide +kernel
theorem dX8_puts_9 : decode cX8_puts 9 = .ok (.ifCond .ne 5, 3) := by decide +kernel
theorem dX8_puts_12 : decode cX8_puts 12 = .ok (.iconst (-1), 1) := by decide +kernel
theorem dX8_puts_13 : decode cX8_puts 13 = .ok (.ireturn, 1) := by decide +kernel
theorem dX8_puts_14 : decode cX8_puts 14 = .ok (.aload_n 0, 1) := by decide +kernel
theorem dX8_puts_15 : decode cX8_puts 15 = .ok (.getfield 28, 3) := by decide +kernel
theorem dX8_puts_18 : decode cX8_puts 18 = .ok (.bipush 17, 2) := by decide +kernel
theorem dX8_puts_20 : decode cX8_puts 20 = .ok (.iaload, 1) := by decide +kernel
theorem dX8_puts_21 : decode cX8_puts 21 = .ok (.sipush 999, 3) := by decide +kernel
theorem dX8_puts_24 : decode cX8_puts 24 = .ok (.if_icmp .ne 6, 3) := by decide +kernel
theorem dX8_puts_27 : decode cX8_puts 27 = .ok (.bipush (-2), 2) := by decide +kernel
theorem dX8_puts_29 : decode cX8_puts 29 = .ok (.ireturn, 1) := by decide +kernel
theorem dX8_puts_30 : decode cX8_puts 30 = .ok (.aload_n 0, 1) := by decide +kernel
theorem dX8_puts_31 : decode cX8_puts 31 = .ok (.invokevirtual 151, 3) := by decide +kernel
theorem dX8_puts_34 : decode cX8_puts 34 = .ok (.aload_n 0, 1) := by decide +kernel
theorem dX8_puts_35 : decode cX8_puts 35 = .ok (.aload_n 0, 1) := by decide +kernel
theorem dX8_puts_36 : decode cX8_puts 36 = .ok (.getfield 28, 3) := by decide +kernel
theorem dX8_puts_39 : decode cX8_puts 39 = .ok (.iload_n 1, 1) := by decide +kernel
theorem dX8_puts_40 : decode cX8_puts 40 = .ok (.invokevirtual 144, 3) := by decide +kernel
theorem dX8_puts_43 : decode cX8_puts 43 = .ok (.ifCond .eq 7, 3) := by decide +kernel
theorem dX8_puts_46 : decode cX8_puts 46 = .ok (.iconst 1, 1) := by decide +kernel
theorem dX8_puts_47 : decode cX8_puts 47 = .ok (.goto 4, 3) := by decide +kernel
theorem dX8_puts_50 : decode cX8_puts 50 = .ok (.iconst 0, 1) := by decide +kernel
theorem dX8_puts_51 : decode cX8_puts 51 = .ok (.istore_n 2, 1) := by decide +kernel
theorem dX8_puts_52 : decode cX8_puts 52 = .ok (.aload_n 0, 1) := by decide +kernel
theorem dX8_puts_53 : decode cX8_puts 53 = .ok (.getfield 28, 3) := by decide +kernel
theorem dX8_puts_56 : decode cX8_puts 56 = .ok (.bipush 17, 2) := by decide +kernel
theorem dX8_puts_58 : decode cX8_puts 58 = .ok (.dup2, 1) := by decide +kernel
theorem dX8_puts_59 : decode cX8_puts 59 = .ok (.iaload, 1) := by decide +kernel
theorem dX8_puts_60 : decode cX8_puts 60 = .ok (.iconst 1, 1) := by decide +kernel
theorem dX8_puts_61 : decode cX8_puts 61 = .ok (.iadd, 1) := by decide +kernel
theorem dX8_puts_62 : decode cX8_puts 62 = .ok (.iastore, 1) := by decide +kernel
theorem dX8_puts_63 : decode cX8_puts 63 = .ok (.aload_n 0, 1) := by decide +kernel
theorem dX8_puts_64 : decode cX8_puts 64 = .ok (.getfield 28, 3) := by decide +kernel
theorem dX8_puts_67 : decode cX8_puts 67 = .ok (.bipush 18, 2) := by decide +kernel
theorem dX8_puts_69 : decode cX8_puts 69 = .ok (.dup2, 1) := by decide +kernel
theorem dX8_puts_70 : decode cX8_puts 70 = .ok (.iaload, 1) := by decide +kernel
theorem dX8_puts_71 : decode cX8_puts 71 = .ok (.iload_n 2, 1) := by decide +kernel
theorem dX8_puts_72 : decode cX8_puts 72 = .ok (.iadd, 1) := by decide +kernel
theorem dX8_puts_73 : decode cX8_puts 73 = .ok (.iastore, 1) := by decide +kernel
theorem dX8_puts_74 : decode cX8_puts 74 = .ok (.iconst 0, 1) := by decide +kernel
theorem dX8_puts_75 : decode cX8_puts 75 = .ok (.istore_n 3, 1) := by decide +kernel
theorem dX8_puts_76 : decode cX8_puts 76 = .ok (.iload_n 3, 1) := by decide +kernel
theorem dX8_puts_77 : decode cX8_puts 77 = .ok (.aload_n 0, 1) := by decide +kernel
theorem dX8_puts_78 : decode cX8_puts 78 = .ok (.getfield 13, 3) := by decide +kernel
theorem dX8_puts_81 : decode cX8_puts 81 = .ok (.iconst 0, 1) := by decide +kernel
theorem dX8_puts_82 : decode cX8_puts 82 = .ok (.iaload, 1) := by decide +kernel
theorem dX8_puts_83 : decode cX8_puts 83 = .ok (.if_icmp .ge 38, 3) := by decide +kernel
theorem dX8_puts_86 : decode cX8_puts 86 = .ok (.aload_n 0, 1) := by decide +kernel
theorem dX8_puts_87 : decode cX8_puts 87 = .ok (.getfield 28, 3) := by decide +kernel
theorem dX8_puts_90 : decode cX8_puts 90 = .ok (.bipush 7, 2) := by decide +kernel
theorem dX8_puts_92 : decode cX8_puts 92 = .ok (.iload_n 3, 1) := by decide +kernel
theorem dX8_puts_93 : decode cX8_puts 93 = .ok (.iadd, 1) := by decide +kernel
theorem dX8_puts_94 : decode cX8_puts 94 = .ok (.dup2, 1) := by decide +kernel
theorem dX8_puts_95 : decode cX8_puts 95 = .ok (.iaload, 1) := by decide +kernel
theorem dX8_puts_96 : decode cX8_puts 96 = .ok (.aload_n 0, 1) := by decide +kernel
theorem dX8_puts_97 : decode cX8_puts 97 = .ok (.getfield 28, 3) := by decide +kernel
theorem dX8_puts_100 : decode cX8_puts 100 = .ok (.bipush 7, 2) := by decide +kernel
theorem dX8_puts_102 : decode cX8_puts 102 = .ok (.iload_n 3, 1) := by decide +kernel
theorem dX8_puts_103 : decode cX8_puts 103 = .ok (.iadd, 1) := by decide +kernel
theorem dX8_puts_104 : decode cX8_puts 104 = .ok (.iaload, 1) := by decide +kernel
theorem dX8_puts_105 : decode cX8_puts 105 = .ok (.ifCond .le 7, 3) := by decide +kernel
theorem dX8_puts_108 : decode cX8_puts 108 = .ok (.iconst 1, 1) := by decide +kernel
theorem dX8_puts_109 : decode cX8_puts 109 = .ok (.goto 4, 3) := by decide +kernel
theorem dX8_puts_112 : decode cX8_puts 112 = .ok (.iconst 0, 1) := by decide +kernel
theorem dX8_puts_113 : decode cX8_puts 113 = .ok (.isub, 1) := by decide +kernel
theorem dX8_puts_114 : decode cX8_puts 114 = .ok (.iastore, 1) := by decide +kernel
theorem dX8_puts_115 : decode cX8_puts 115 = .ok (.iinc 3 1, 3) := by decide +kernel
theorem dX8_puts_118 : decode cX8_puts 118 = .ok (.goto (-42), 3) := by decide +kernel
theorem dX8_puts_121 : decode cX8_puts 121 = .ok (.iload_n 2, 1) := by decide +kernel
theorem dX8_puts_122 : decode cX8_puts 122 = .ok (.ireturn, 1) := by decide +kernel
set_option maxRecDepth 20000 in
theorem ggX8_hands_X8_isThing : GoodIn wsX8_hands wsX8_isThing := goodIn_r _ [7, 8, 9, 10, 6, 11, 22, 23, 24, 25, 26, 27, 28, 29, 30, 31, 32, 33, 34, 35, 36, 37, 38, 39, 40, 41, 42, 43, 44, 45] (by decide +kernel) (by decide +kernel)
set_option maxRecDepth 20000 in
theorem gX8_hands_X8_isThing : GoodIn wsX8_hands (wsV RX8 131 RX8 yX8_isThing wsX8_isThing) := goodIn_app (goodIn_of _ (by decide +kernel)) ggX8_hands_X8_isThing
set_option maxRecDepth 20000 in
theorem ggX8_hands_X8_isOfficer : GoodIn wsX8_hands wsX8_isOfficer := goodIn_r _ [15, 8, 9, 10, 6, 11, 22, 23, 24, 25, 26, 27, 28, 29, 30, 31, 32, 33, 34, 35, 36, 37, 38, 39, 40, 41, 42, 43, 44, 45] (by decide +kernel) (by decide +kernel)
set_option maxRecDepth 20000 in
theorem gX8_hands_X8_isOfficer : GoodIn wsX8_hands (wsV RX8 135 RX8 yX8_isOfficer wsX8_isOfficer) := goodIn_app (goodIn_of _ (by decide +kernel)) ggX8_hands_X8_isOfficer
set_option maxRecDepth 20000 in
theorem ggX8_hands_X8_notes : GoodIn wsX8_hands wsX8_notes := goodIn_r _ [19, 20, 21, 2, 22, 23, 24, 25, 26, 27, 28, 29, 30, 31, 32, 33, 34, 35, 36, 37, 38, 39, 40, 41, 42, 43, 44, 45] (by decide +kernel) (by decide +kernel)
set_option maxRecDepth 20000 in
theorem gX8_hands_X8_notes : GoodIn wsX8_hands (wsV RX8 151 RX8 yX8_notes wsX8_notes) := goodIn_app (goodIn_of _ (by decide +kernel)) ggX8_hands_X8_notes
theorem dX8_hands_0 : decode cX8_hands 0 = .ok (.aload_n 0, 1) := by decide +kernel
theorem dX8_hands_1 : decode cX8_hands 1 = .ok (.iconst 0, 1) := by decide +kernel
theorem dX8_hands_2 : decode cX8_hands 2 = .ok (.putfield 50, 3) := by decide +kernel
theorem dX8_hands_5 : decode cX8_hands 5 = .ok (.aload_n 0, 1) := by decide +kernel
theorem dX8_hands_6 : decode cX8_hands 6 = .ok (.iload_n 1, 1) := by decide +kernel
theorem dX8_hands_7 : decode cX8_hands 7 = .ok (.invokevirtual 131, 3) := by decide +kernel
theorem dX8_hands_10 : decode cX8_hands 10 = .ok (.ifCond .eq 11, 3) := by decide +kernel
theorem dX8_hands_13 : decode cX8_hands 13 = .ok (.aload_n 0, 1) := by decide +kernel
theorem dX8_hands_14 : decode cX8_hands 14 = .ok (.iload_n 2, 1) := by decide +kernel
theorem dX8_hands_15 : decode cX8_hands 15 = .ok (.invokevirtual 135, 3) := by decide +kernel
theorem dX8_hands_18 : decode cX8_hands 18 = .ok (.ifCond .ne 5, 3) := by decide +kernel
theorem dX8_hands_21 : decode cX8_hands 21 = .ok (.iconst (-1), 1) := by decide +kernel
theorem dX8_hands_22 : decode cX8_hands 22 = .ok (.ireturn, 1) := by decide +kernel
theorem dX8_hands_23 : decode cX8_hands 23 = .ok (.aload_n 0, 1) := by decide +kernel
theorem dX8_hands_24 : decode cX8_hands 24 = .ok (.invokevirtual 151, 3) := by decide +kernel
theorem dX8_hands_27 : decode cX8_hands 27 = .ok (.aload_n 0, 1) := by decide +kernel
theorem dX8_hands_28 : decode cX8_hands 28 = .ok (.getfield 28, 3) := by decide +kernel
theorem dX8_hands_31 : decode cX8_hands 31 = .ok (.iconst 0, 1) := by decide +kernel
theorem dX8_hands_32 : decode cX8_hands 32 = .ok (.iload_n 1, 1) := by decide +kernel
theorem dX8_hands_33 : decode cX8_hands 33 = .ok (.iadd, 1) := by decide +kernel
theorem dX8_hands_34 : decode cX8_hands 34 = .ok (.iaload, 1) := by decide +kernel
theorem dX8_hands_35 : decode cX8_hands 35 = .ok (.istore_n 3, 1) := by decide +kernel
theorem dX8_hands_36 : decode cX8_hands 36 = .ok (.aload_n 0, 1) := by decide +kernel
theorem dX8_hands_37 : decode cX8_hands 37 = .ok (.getfield 28, 3) := by decide +kernel
theorem dX8_hands_40 : decode cX8_hands 40 = .ok (.iconst 0, 1) := by decide +kernel
theorem dX8_hands_41 : decode cX8_hands 41 = .ok (.iload_n 1, 1) := by decide +kernel
theorem dX8_hands_42 : decode cX8_hands 42 = .ok (.iadd, 1) := by decide +kernel
theorem dX8_hands_43 : decode cX8_hands 43 = .ok (.iload_n 2, 1) := by decide +kernel
theorem dX8_hands_44 : decode cX8_hands 44 = .ok (.iastore, 1) := by decide +kernel
theorem dX8_hands_45 : decode cX8_hands 45 = .ok (.iload_n 3, 1) := by decide +kernel
theorem dX8_hands_46 : decode cX8_hands 46 = .ok (.ireturn, 1) := by decide +kernel
set_option maxRecDepth 20000 in
theorem ggX8_washes_X8_isThing : GoodIn wsX8_washes wsX8_isThing := goodIn_r _ [7, 8, 9, 10, 6, 11, 21, 22, 23, 24, 25, 26, 27, 28, 29, 30, 31, 32, 33, 34, 35, 36, 37, 38, 39, 40, 41, 42, 43, 44] (by decide +kernel) (by decide +kernel)
set_option maxRecDepth 20000 in
theorem gX8_washes_X8_isThing : GoodIn wsX8_washes (wsV RX8 131 RX8 yX8_isThing wsX8_isThing) := goodIn_app (goodIn_of _ (by decide +kernel)) ggX8_washes_X8_isThing
set_option maxRecDepth 20000 in
theorem ggX8_washes_X8_notes : GoodIn wsX8_washes wsX8_notes := goodIn_r _ [15, 16, 17, 2, 21, 22, 23, 24, 25, 26, 27, 28, 29, 30, 31, 32, 33, 34, 35, 36, 37, 38, 39, 40, 41, 42, 43, 44] (by decide +kernel) (by decide +kernel)
set_option maxRecDepth 20000 in
theorem gX8_washes_X8_notes : GoodIn wsX8_washes (wsV RX8 151 RX8 yX8_notes wsX8_notes) := goodIn_app (goodIn_of _ (by decide +kernel)) ggX8_washes_X8_notes
set_option maxRecDepth 20000 in
theorem ggX8_washes_X8_ones : GoodIn wsX8_washes wsX8_ones := goodIn_r _ [20] (by decide +kernel) (by decide +kernel)
set_option maxRecDepth 20000 in
theorem gX8_washes_X8_ones : GoodIn wsX8_washes (va_wsS RX8 154 yX8_ones wsX8_ones) := goodIn_app (goodIn_of _ (by decide +kernel)) ggX8_washes_X8_ones
theorem dX8_washes_0 : decode cX8_washes 0 = .ok (.aload_n 0, 1) := by decide +kernel
theorem dX8_washes_1 : decode cX8_washes 1 = .ok (.iconst 0, 1) := by decide +kernel
theorem dX8_washes_2 : decode cX8_washes 2 = .ok (.putfield 50, 3) := by decide +kernel
theorem dX8_washes_5 : decode cX8_washes 5 = .ok (.aload_n 0, 1) := by decide +kernel
theorem dX8_washes_6 : decode cX8_washes 6 = .ok (.iload_n 1, 1) := by decide +kernel
theorem dX8_washes_7 : decode cX8_washes 7 = .ok (.invokevirtual 131, 3) := by decide +kernel
theorem dX8_washes_10 : decode cX8_washes 10 = .ok (.ifCond .ne 5, 3) := by decide +kernel
theorem dX8_washes_13 : decode cX8_washes 13 = .ok (.iconst (-1), 1) := by decide +kernel
theorem dX8_washes_14 : decode cX8_washes 14 = .ok (.ireturn, 1) := by decide +kernel
theorem dX8_washes_15 : decode cX8_washes 15 = .ok (.aload_n 0, 1) := by decide +kernel
theorem dX8_washes_16 : decode cX8_washes 16 = .ok (.getfield 28, 3) := by decide +kernel
theorem dX8_washes_19 : decode cX8_washes 19 = .ok (.bipush 14, 2) := by decide +kernel
theorem dX8_washes_21 : decode cX8_washes 21 = .ok (.iaload, 1) := by decide +kernel
theorem dX8_washes_22 : decode cX8_washes 22 = .ok (.iload_n 1, 1) := by decide +kernel
theorem dX8_washes_23 : decode cX8_washes 23 = .ok (.ishr, 1) := by decide +kernel
theorem dX8_washes_24 : decode cX8_washes 24 = .ok (.iconst 1, 1) := by decide +kernel
theorem dX8_washes_25 : decode cX8_washes 25 = .ok (.iand, 1) := by decide +kernel
theorem dX8_washes_26 : decode cX8_washes 26 = .ok (.iconst 1, 1) := by decide +kernel
theorem dX8_washes_27 : decode cX8_washes 27 = .ok (.if_icmp .ne 6, 3) := by decide +kernel
theorem dX8_washes_30 : decode cX8_washes 30 = .ok (.bipush (-2), 2) := by decide +kernel
theorem dX8_washes_32 : decode cX8_washes 32 = .ok (.ireturn, 1) := by decide +kernel
theorem dX8_washes_33 : decode cX8_washes 33 = .ok (.aload_n 0, 1) := by decide +kernel
theorem dX8_washes_34 : decode cX8_washes 34 = .ok (.invokevirtual 151, 3) := by decide +kernel
theorem dX8_washes_37 : decode cX8_washes 37 = .ok (.aload_n 0, 1) := by decide +kernel
theorem dX8_washes_38 : decode cX8_washes 38 = .ok (.getfield 28, 3) := by decide +kernel
theorem dX8_washes_41 : decode cX8_washes 41 = .ok (.bipush 14, 2) := by decide +kernel
theorem dX8_washes_43 : decode cX8_washes 43 = .ok (.dup2, 1) := by decide +kernel
theorem dX8_washes_44 : decode cX8_washes 44 = .ok (.iaload, 1) := by decide +kernel
theorem dX8_washes_45 : decode cX8_washes 45 = .ok (.iconst 1, 1) := by decide +kernel
theorem dX8_washes_46 : decode cX8_washes 46 = .ok (.iload_n 1, 1) := by decide +kernel
theorem dX8_washes_47 : decode cX8_washes 47 = .ok (.ishl, 1) := by decide +kernel
theorem dX8_washes_48 : decode cX8_washes 48 = .ok (.ior, 1) := by decide +kernel
theorem dX8_washes_49 : decode cX8_washes 49 = .ok (.iastore, 1) := by decide +kernel
theorem dX8_washes_50 : decode cX8_washes 50 = .ok (.aload_n 0, 1) := by decide +kernel
theorem dX8_washes_51 : decode cX8_washes 51 = .ok (.getfield 28, 3) := by decide +kernel
theorem dX8_washes_54 : decode cX8_washes 54 = .ok (.bipush 14, 2) := by decide +kernel
theorem dX8_washes_56 : decode cX8_washes 56 = .ok (.iaload, 1) := by decide +kernel
theorem dX8_washes_57 : decode cX8_washes 57 = .ok (.invokestatic 154, 3) := by decide +kernel
theorem dX8_washes_60 : decode cX8_washes 60 = .ok (.ireturn, 1) := by decide +kernel
set_option maxRecDepth 20000 in
theorem ggX8_hangs_X8_isThing : GoodIn wsX8_hangs wsX8_isThing := goodIn_r _ [8, 9, 10, 11, 7, 12, 19, 20, 21, 22, 23, 24, 25, 26, 27, 28, 29, 30, 31, 32, 33, 34, 35, 36, 37, 38, 39, 40, 41, 42] (by decide +kernel) (by decide +kernel)
set_option maxRecDepth 20000 in
theorem gX8_hangs_X8_isThing : GoodIn wsX8_hangs (wsV RX8 131 RX8 yX8_isThing wsX8_isThing) := goodIn_app (goodIn_of _ (by decide +kernel)) ggX8_hangs_X8_isThing
set_option maxRecDepth 20000 in
theorem ggX8_hangs_X8_notes : GoodIn wsX8_hangs wsX8_notes := goodIn_r _ [16, 17, 18, 2, 19, 20, 21, 22, 23, 24, 25, 26, 27, 28, 29, 30, 31, 32, 33, 34, 35, 36, 37, 38, 39, 40, 41, 42] (by decide +kernel) (by decide +kernel)
set_option maxRecDepth 20000 in
theorem gX8_hangs_X8_notes : GoodIn wsX8_hangs (wsV RX8 151 RX8 yX8_notes wsX8_notes) := goodIn_app (goodIn_of _ (by decide +kernel)) ggX8_hangs_X8_notes
theorem dX8_hangs_0 : decode cX8_hangs 0 = .ok (.aload_n 0, 1) := by decide +kernel
theorem dX8_hangs_1 : decode cX8_hangs 1 = .ok (.iconst 0, 1) := by decide +kernel
theorem dX8_hangs_2 : decode cX8_hangs 2 = .ok (.putfield 50, 3) := by decide +kernel
theorem dX8_hangs_5 : decode cX8_hangs 5 = .ok (.aload_n 0, 1) := by decide +kernel
theorem dX8_hangs_6 : decode cX8_hangs 6 = .ok (.iload_n 1, 1) := by decide +kernel
theorem dX8_hangs_7 : decode cX8_hangs 7 = .ok (.invokevirtual 131, 3) := by decide +kernel
theorem dX8_hangs_10 : decode cX8_hangs 10 = .ok (.ifCond .ne 5, 3) := by decide +kernel
theorem dX8_hangs_13 : decode cX8_hangs 13 = .ok (.iconst (-1), 1) := by decide +kernel
theorem dX8_hangs_14 : decode cX8_hangs 14 = .ok (.ireturn, 1) := by decide +kernel
theorem dX8_hangs_15 : decode cX8_hangs 15 = .ok (.aload_n 0, 1) := by decide +kernel
theorem dX8_hangs_16 : decode cX8_hangs 16 = .ok (.getfield 28, 3) := by decide +kernel
theorem dX8_hangs_19 : decode cX8_hangs 19 = .ok (.bipush 14, 2) := by decide +kernel
theorem dX8_hangs_21 : decode cX8_hangs 21 = .ok (.iaload, 1) := by decide +kernel
theorem dX8_hangs_22 : decode cX8_hangs 22 = .ok (.iload_n 1, 1) := by decide +kernel
theorem dX8_hangs_23 : decode cX8_hangs 23 = .ok (.ishr, 1) := by decide +kernel
theorem dX8_hangs_24 : decode cX8_hangs 24 = .ok (.iconst 1, 1) := by decide +kernel
theorem dX8_hangs_25 : decode cX8_hangs 25 = .ok (.iand, 1) := by decide +kernel
theorem dX8_hangs_26 : decode cX8_hangs 26 = .ok (.ifCond .ne 6, 3) := by decide +kernel
theorem dX8_hangs_29 : decode cX8_hangs 29 = .ok (.bipush (-2), 2) := by decide +kernel
theorem dX8_hangs_31 : decode cX8_hangs 31 = .ok (.ireturn, 1) := by decide +kernel
theorem dX8_hangs_32 : decode cX8_hangs 32 = .ok (.aload_n 0, 1) := by decide +kernel
theorem dX8_hangs_33 : decode cX8_hangs 33 = .ok (.invokevirtual 151, 3) := by decide +kernel
theorem dX8_hangs_36 : decode cX8_hangs 36 = .ok (.aload_n 0, 1) := by decide +kernel
theorem dX8_hangs_37 : decode cX8_hangs 37 = .ok (.getfield 28, 3) := by decide +kernel
theorem dX8_hangs_40 : decode cX8_hangs 40 = .ok (.bipush 14, 2) := by decide +kernel
theorem dX8_hangs_42 : decode cX8_hangs 42 = .ok (.dup2, 1) := by decide +kernel
theorem dX8_hangs_43 : decode cX8_hangs 43 = .ok (.iaload, 1) := by decide +kernel
theorem dX8_hangs_44 : decode cX8_hangs 44 = .ok (.iconst 1, 1) := by decide +kernel
theorem dX8_hangs_45 : decode cX8_hangs 45 = .ok (.iload_n 1, 1) := by decide +kernel
theorem dX8_hangs_46 : decode cX8_hangs 46 = .ok (.ishl, 1) := by decide +kernel
theorem dX8_hangs_47 : decode cX8_hangs 47 = .ok (.iconst (-1), 1) := by decide +kernel
theorem dX8_hangs_48 : decode cX8_hangs 48 = .ok (.ixor, 1) := by decide +kernel
theorem dX8_hangs_49 : decode cX8_hangs 49 = .ok (.iand, 1) := by decide +kernel
theorem dX8_hangs_50 : decode cX8_hangs 50 = .ok (.iastore, 1) := by decide +kernel
theorem dX8_hangs_51 : decode cX8_hangs 51 = .ok (.aload_n 0, 1) := by decide +kernel
theorem dX8_hangs_52 : decode cX8_hangs 52 = .ok (.getfield 28, 3) := by decide +kernel
theorem dX8_hangs_55 : decode cX8_hangs 55 = .ok (.bipush 15, 2) := by decide +kernel
theorem dX8_hangs_57 : decode cX8_hangs 57 = .ok (.dup2, 1) := by decide +kernel
theorem dX8_hangs_58 : decode cX8_hangs 58 = .ok (.iaload, 1) := by decide +kernel
theorem dX8_hangs_59 : decode cX8_hangs 59 = .ok (.aload_n 0, 1) := by decide +kernel
theorem dX8_hangs_60 : decode cX8_hangs 60 = .ok (.getfield 16, 3) := by decide +kernel
theorem dX8_hangs_63 : decode cX8_hangs 63 = .ok (.iload_n 1, 1) := by decide +kernel
theorem dX8_hangs_64 : decode cX8_hangs 64 = .ok (.iaload, 1) := by decide +kernel
theorem dX8_hangs_65 : decode cX8_hangs 65 = .ok (.iconst 2, 1) := by decide +kernel
theorem dX8_hangs_66 : decode cX8_hangs 66 = .ok (.if_icmp .ne 9, 3) := by decide +kernel
theorem dX8_hangs_69 : decode cX8_hangs 69 = .ok (.iconst 1, 1) := by decide +kernel
theorem dX8_hangs_70 : decode cX8_hangs 70 = .ok (.iload_n 1, 1) := by decide +kernel
theorem dX8_hangs_71 : decode cX8_hangs 71 = .ok (.ishl, 1) := by decide +kernel
theorem dX8_hangs_72 : decode cX8_hangs 72 = .ok (.goto 4, 3) := by decide +kernel
theorem dX8_hangs_75 : decode cX8_hangs 75 = .ok (.iconst 0, 1) := by decide +kernel
theorem dX8_hangs_76 : decode cX8_hangs 76 = .ok (.ixor, 1) := by decide +kernel
theorem dX8_hangs_77 : decode cX8_hangs 77 = .ok (.iastore, 1) := by decide +kernel
theorem dX8_hangs_78 : decode cX8_hangs 78 = .ok (.aload_n 0, 1) := by decide +kernel
theorem dX8_hangs_79 : decode cX8_hangs 79 = .ok (.getfield 28, 3) := by decide +kernel
theorem dX8_hangs_82 : decode cX8_hangs 82 = .ok (.bipush 15, 2) := by decide +kernel
theorem dX8_hangs_84 : decode cX8_hangs 84 = .ok (.iaload, 1) := by decide +kernel
theorem dX8_hangs_85 : decode cX8_hangs 85 = .ok (.iload_n 1, 1) := by decide +kernel
theorem dX8_hangs_86 : decode cX8_hangs 86 = .ok (.ishr, 1) := by decide +kernel
theorem dX8_hangs_87 : decode cX8_hangs 87 = .ok (.iconst 1, 1) := by decide +kernel
theorem dX8_hangs_88 : decode cX8_hangs 88 = .ok (.iand, 1) := by decide +kernel
theorem dX8_hangs_89 : decode cX8_hangs 89 = .ok (.ireturn, 1) := by decide +kernel
set_option maxRecDepth 20000 in
theorem ggX8_warms_X8_isThing : GoodIn wsX8_warms wsX8_isThing := goodIn_r _ [9, 4, 10, 11, 8, 12, 19, 20, 21, 22, 23, 24, 25, 26, 27, 28, 29, 30, 31, 32, 33, 34, 35, 36, 37, 38, 39, 40, 41, 42] (by decide +kernel) (by decide +kernel)
set_option maxRecDepth 20000 in
theorem gX8_warms_X8_isThing : GoodIn wsX8_warms (wsV RX8 131 RX8 yX8_isThing wsX8_isThing) := goodIn_app (goodIn_of _ (by decide +kernel)) ggX8_warms_X8_isThing
set_option maxRecDepth 20000 in
theorem ggX8_warms_X8_notes : GoodIn wsX8_warms wsX8_notes := goodIn_r _ [16, 17, 18, 3, 19, 20, 21, 22, 23, 24, 25, 26, 27, 28, 29, 30, 31, 32, 33, 34, 35, 36, 37, 38, 39, 40, 41, 42] (by decide +kernel) (by decide +kernel)
set_option maxRecDepth 20000 in
theorem gX8_warms_X8_notes : GoodIn wsX8_warms (wsV RX8 151 RX8 yX8_notes wsX8_notes) := goodIn_app (goodIn_of _ (by decide +kernel)) ggX8_warms_X8_notes
theorem dX8_warms_0 : decode cX8_warms 0 = .ok (.aload_n 0, 1) := by decide +kernel
theorem dX8_warms_1 : decode cX8_warms 1 = .ok (.iconst 0, 1) := by decide +kernel
theorem dX8_warms_2 : decode cX8_warms 2 = .ok (.putfield 50, 3) := by decide +kernel
theorem dX8_warms_5 : decode cX8_warms 5 = .ok (.aload_n 0, 1) := by decide +kernel
theorem dX8_warms_6 : decode cX8_warms 6 = .ok (.iload_n 1, 1) := by decide +kernel
theorem dX8_warms_7 : decode cX8_warms 7 = .ok (.invokevirtual 131, 3) := by decide +kernel
theorem dX8_warms_10 : decode cX8_warms 10 = .ok (.ifCond .ne 5, 3) := by decide +kernel
theorem dX8_warms_13 : decode cX8_warms 13 = .ok (.iconst (-1), 1) := by decide +kernel
theorem dX8_warms_14 : decode cX8_warms 14 = .ok (.ireturn, 1) := by decide +kernel
theorem dX8_warms_15 : decode cX8_warms 15 = .ok (.aload_n 0, 1) := by decide +kernel
theorem dX8_warms_16 : decode cX8_warms 16 = .ok (.getfield 16, 3) := by decide +kernel
theorem dX8_warms_19 : decode cX8_warms 19 = .ok (.iload_n 1, 1) := by decide +kernel
theorem dX8_warms_20 : decode cX8_warms 20 = .ok (.iaload, 1) := by decide +kernel
theorem dX8_warms_21 : decode cX8_warms 21 = .ok (.iconst 1, 1) := by decide +kernel
theorem dX8_warms_22 : decode cX8_warms 22 = .ok (.if_icmp .eq 6, 3) := by decide +kernel
theorem dX8_warms_25 : decode cX8_warms 25 = .ok (.bipush (-2), 2) := by decide +kernel
theorem dX8_warms_27 : decode cX8_warms 27 = .ok (.ireturn, 1) := by decide +kernel
theorem dX8_warms_28 : decode cX8_warms 28 = .ok (.aload_n 0, 1) := by decide +kernel
theorem dX8_warms_29 : decode cX8_warms 29 = .ok (.invokevirtual 151, 3) := by decide +kernel
theorem dX8_warms_32 : decode cX8_warms 32 = .ok (.aload_n 0, 1) := by decide +kernel
theorem dX8_warms_33 : decode cX8_warms 33 = .ok (.getfield 28, 3) := by decide +kernel
theorem dX8_warms_36 : decode cX8_warms 36 = .ok (.bipush 7, 2) := by decide +kernel
theorem dX8_warms_38 : decode cX8_warms 38 = .ok (.iload_n 1, 1) := by decide +kernel
theorem dX8_warms_39 : decode cX8_warms 39 = .ok (.iadd, 1) := by decide +kernel
theorem dX8_warms_40 : decode cX8_warms 40 = .ok (.iaload, 1) := by decide +kernel
theorem dX8_warms_41 : decode cX8_warms 41 = .ok (.istore_n 2, 1) := by decide +kernel
theorem dX8_warms_42 : decode cX8_warms 42 = .ok (.aload_n 0, 1) := by decide +kernel
theorem dX8_warms_43 : decode cX8_warms 43 = .ok (.getfield 28, 3) := by decide +kernel
theorem dX8_warms_46 : decode cX8_warms 46 = .ok (.bipush 7, 2) := by decide +kernel
theorem dX8_warms_48 : decode cX8_warms 48 = .ok (.iload_n 1, 1) := by decide +kernel
theorem dX8_warms_49 : decode cX8_warms 49 = .ok (.iadd, 1) := by decide +kernel
theorem dX8_warms_50 : decode cX8_warms 50 = .ok (.aload_n 0, 1) := by decide +kernel
theorem dX8_warms_51 : decode cX8_warms 51 = .ok (.getfield 13, 3) := by decide +kernel
theorem dX8_warms_54 : decode cX8_warms 54 = .ok (.iconst 2, 1) := by decide +kernel
theorem dX8_warms_55 : decode cX8_warms 55 = .ok (.iaload, 1) := by decide +kernel
theorem dX8_warms_56 : decode cX8_warms 56 = .ok (.iastore, 1) := by decide +kernel
theorem dX8_warms_57 : decode cX8_warms 57 = .ok (.iload_n 2, 1) := by decide +kernel
theorem dX8_warms_58 : decode cX8_warms 58 = .ok (.ireturn, 1) := by decide +kernel
set_option maxRecDepth 20000 in
theorem ggX8_sickens_X8_isOfficer : GoodIn wsX8_sickens wsX8_isOfficer := goodIn_r _ [7, 8, 9, 10, 6, 11, 18, 19, 20, 21, 22, 23, 24, 25, 26, 27, 28, 29, 30, 31, 32, 33, 34, 35, 36, 37, 38, 39, 40, 41] (by decide +kernel) (by decide +kernel)
set_option maxRecDepth 20000 in
theorem gX8_sickens_X8_isOfficer : GoodIn wsX8_sickens (wsV RX8 135 RX8 yX8_isOfficer wsX8_isOfficer) := goodIn_app (goodIn_of _ (by decide +kernel)) ggX8_sickens_X8_isOfficer
set_option maxRecDepth 20000 in
theorem ggX8_sickens_X8_in : GoodIn wsX8_sickens wsX8_in := goodIn_r _ [11] (by decide +kernel) (by decide +kernel)
set_option maxRecDepth 20000 in
theorem gX8_sickens_X8_in : GoodIn wsX8_sickens (va_wsS RX8 54 yX8_in wsX8_in) := goodIn_app (goodIn_of _ (by decide +kernel)) ggX8_sickens_X8_in
set_option maxRecDepth 20000 in
theorem ggX8_sickens_X8_notes : GoodIn wsX8_sickens wsX8_notes := goodIn_r _ [15, 16, 17, 2, 18, 19, 20, 21, 22, 23, 24, 25, 26, 27, 28, 29, 30, 31, 32, 33, 34, 35, 36, 37, 38, 39, 40, 41] (by decide +kernel) (by decide +kernel)
set_option maxRecDepth 20000 in
theorem gX8_sickens_X8_notes : GoodIn wsX8_sickens (wsV RX8 151 RX8 yX8_notes wsX8_notes) := goodIn_app (goodIn_of _ (by decide +kernel)) ggX8_sickens_X8_notes
theorem dX8_sickens_0 : decode cX8_sickens 0 = .ok (.aload_n 0, 1) := by decide +kernel
theorem dX8_sickens_1 : decode cX8_sickens 1 = .ok (.iconst 0, 1) := by decide +kernel
theorem dX8_sickens_2 : decode cX8_sickens 2 = .ok (.putfield 50, 3) := by decide +kernel
theorem dX8_sickens_5 : decode cX8_sickens 5 = .ok (.aload_n 0, 1) := by decide +kernel
theorem dX8_sickens_6 : decode cX8_sickens 6 = .ok (.iload_n 1, 1) := by decide +kernel
theorem dX8_sickens_7 : decode cX8_sickens 7 = .ok (.invokevirtual 135, 3) := by decide +kernel
theorem dX8_sickens_10 : decode cX8_sickens 10 = .ok (.ifCond .eq 12, 3) := by decide +kernel
theorem dX8_sickens_13 : decode cX8_sickens 13 = .ok (.iload_n 2, 1) := by decide +kernel
theorem dX8_sickens_14 : decode cX8_sickens 14 = .ok (.iconst 0, 1) := by decide +kernel
theorem dX8_sickens_15 : decode cX8_sickens 15 = .ok (.iconst 1, 1) := by decide +kernel
theorem dX8_sickens_16 : decode cX8_sickens 16 = .ok (.invokestatic 54, 3) := by decide +kernel
theorem dX8_sickens_19 : decode cX8_sickens 19 = .ok (.ifCond .ne 5, 3) := by decide +kernel
theorem dX8_sickens_22 : decode cX8_sickens 22 = .ok (.iconst (-1), 1) := by decide +kernel
theorem dX8_sickens_23 : decode cX8_sickens 23 = .ok (.ireturn, 1) := by decide +kernel
theorem dX8_sickens_24 : decode cX8_sickens 24 = .ok (.aload_n 0, 1) := by decide +kernel
theorem dX8_sickens_25 : decode cX8_sickens 25 = .ok (.invokevirtual 151, 3) := by decide +kernel
theorem dX8_sickens_28 : decode cX8_sickens 28 = .ok (.aload_n 0, 1) := by decide +kernel
theorem dX8_sickens_29 : decode cX8_sickens 29 = .ok (.getfield 28, 3) := by decide +kernel
theorem dX8_sickens_32 : decode cX8_sickens 32 = .ok (.bipush 16, 2) := by decide +kernel
theorem dX8_sickens_34 : decode cX8_sickens 34 = .ok (.iaload, 1) := by decide +kernel
theorem dX8_sickens_35 : decode cX8_sickens 35 = .ok (.iload_n 1, 1) := by decide +kernel
theorem dX8_sickens_36 : decode cX8_sickens 36 = .ok (.ishr, 1) := by decide +kernel
theorem dX8_sickens_37 : decode cX8_sickens 37 = .ok (.iconst 1, 1) := by decide +kernel
theorem dX8_sickens_38 : decode cX8_sickens 38 = .ok (.iand, 1) := by decide +kernel
theorem dX8_sickens_39 : decode cX8_sickens 39 = .ok (.istore_n 3, 1) := by decide +kernel
theorem dX8_sickens_40 : decode cX8_sickens 40 = .ok (.aload_n 0, 1) := by decide +kernel
theorem dX8_sickens_41 : decode cX8_sickens 41 = .ok (.getfield 28, 3) := by decide +kernel
theorem dX8_sickens_44 : decode cX8_sickens 44 = .ok (.bipush 16, 2) := by decide +kernel
theorem dX8_sickens_46 : decode cX8_sickens 46 = .ok (.aload_n 0, 1) := by decide +kernel
theorem dX8_sickens_47 : decode cX8_sickens 47 = .ok (.getfield 28, 3) := by decide +kernel
theorem dX8_sickens_50 : decode cX8_sickens 50 = .ok (.bipush 16, 2) := by decide +kernel
theorem dX8_sickens_52 : decode cX8_sickens 52 = .ok (.iaload, 1) := by decide +kernel
theorem dX8_sickens_53 : decode cX8_sickens 53 = .ok (.iconst 1, 1) := by decide +kernel
theorem dX8_sickens_54 : decode cX8_sickens 54 = .ok (.iload_n 1, 1) := by decide +kernel
theorem dX8_sickens_55 : decode cX8_sickens 55 = .ok (.ishl, 1) := by decide +kernel
theorem dX8_sickens_56 : decode cX8_sickens 56 = .ok (.iconst (-1), 1) := by decide +kernel
theorem dX8_sickens_57 : decode cX8_sickens 57 = .ok (.ixor, 1) := by decide +kernel
theorem dX8_sickens_58 : decode cX8_sickens 58 = .ok (.iand, 1) := by decide +kernel
theorem dX8_sickens_59 : decode cX8_sickens 59 = .ok (.iload_n 2, 1) := by decide +kernel
theorem dX8_sickens_60 : decode cX8_sickens 60 = .ok (.iload_n 1, 1) := by decide +kernel
theorem dX8_sickens_61 : decode cX8_sickens 61 = .ok (.ishl, 1) := by decide +kernel
theorem dX8_sickens_62 : decode cX8_sickens 62 = .ok (.ior, 1) := by decide +kernel
theorem dX8_sickens_63 : decode cX8_sickens 63 = .ok (.iastore, 1) := by decide +kernel
theorem dX8_sickens_64 : decode cX8_sickens 64 = .ok (.iload_n 3, 1) := by decide +kernel
theorem dX8_sickens_65 : decode cX8_sickens 65 = .ok (.ireturn, 1) := by decide +kernel
theorem dX8_undo_0 : decode cX8_undo 0 = .ok (.aload_n 0, 1) := by decide +kernel
theorem dX8_undo_1 : decode cX8_undo 1 = .ok (.iconst 0, 1) := by decide +kernel
theorem dX8_undo_2 : decode cX8_undo 2 = .ok (.putfield 50, 3) := by decide +kernel
theorem dX8_undo_5 : decode cX8_undo 5 = .ok (.aload_n 0, 1) := by decide +kernel
theorem dX8_undo_6 : decode cX8_undo 6 = .ok (.getfield 109, 3) := by decide +kernel
theorem dX8_undo_9 : decode cX8_undo 9 = .ok (.ifCond .ne 6, 3) := by decide +kernel
theorem dX8_undo_12 : decode cX8_undo 12 = .ok (.bipush (-2), 2) := by decide +kernel
theorem dX8_undo_14 : decode cX8_undo 14 = .ok (.ireturn, 1) := by decide +kernel
theorem dX8_undo_15 : decode cX8_undo 15 = .ok (.aload_n 0, 1) := by decide +kernel
theorem dX8_undo_16 : decode cX8_undo 16 = .ok (.dup, 1) := by decide +kernel
theorem dX8_undo_17 : decode cX8_undo 17 = .ok (.getfield 109, 3) := by decide +kernel
theorem dX8_undo_20 : decode cX8_undo 20 = .ok (.iconst 1, 1) := by decide +kernel
theorem dX8_undo_21 : decode cX8_undo 21 = .ok (.isub, 1) := by decide +kernel
theorem dX8_undo_22 : decode cX8_undo 22 = .ok (.putfield 109, 3) := by decide +kernel
theorem dX8_undo_25 : decode cX8_undo 25 = .ok (.iconst 0, 1) := by decide +kernel
theorem dX8_undo_26 : decode cX8_undo 26 = .ok (.istore_n 1, 1) := by decide +kernel
theorem dX8_undo_27 : decode cX8_undo 27 = .ok (.iload_n 1, 1) := by decide +kernel
theorem dX8_undo_28 : decode cX8_undo 28 = .ok (.bipush 19, 2) := by decide +kernel
theorem dX8_undo_30 : decode cX8_undo 30 = .ok (.if_icmp .ge 29, 3) := by decide +kernel
theorem dX8_undo_33 : decode cX8_undo 33 = .ok (.aload_n 0, 1) := by decide +kernel
theorem dX8_undo_34 : decode cX8_undo 34 = .ok (.getfield 28, 3) := by decide +kernel
theorem dX8_undo_37 : decode cX8_undo 37 = .ok (.iload_n 1, 1) := by decide +kernel
theorem dX8_undo_38 : decode cX8_undo 38 = .ok (.aload_n 0, 1) := by decide +kernel
theorem dX8_undo_39 : decode cX8_undo 39 = .ok (.getfield 41, 3) := by decide +kernel
theorem dX8_undo_42 : decode cX8_undo 42 = .ok (.bipush 19, 2) := by decide +kernel
theorem dX8_undo_44 : decode cX8_undo 44 = .ok (.aload_n 0, 1) := by decide +kernel
theorem dX8_undo_45 : decode cX8_undo 45 = .ok (.getfield 109, 3) := by decide +kernel
theorem dX8_undo_48 : decode cX8_undo 48 = .ok (.imul, 1) := by decide +kernel
theorem dX8_undo_49 : decode cX8_undo 49 = .ok (.iload_n 1, 1) := by decide +kernel
theorem dX8_undo_50 : decode cX8_undo 50 = .ok (.iadd, 1) := by decide +kernel
theorem dX8_undo_51 : decode cX8_undo 51 = .ok (.iaload, 1) := by decide +kernel
theorem dX8_undo_52 : decode cX8_undo 52 = .ok (.iastore, 1) := by decide +kernel
theorem dX8_undo_53 : decode cX8_undo 53 = .ok (.iinc 1 1, 3) := by decide +kernel
theorem dX8_undo_56 : decode cX8_undo 56 = .ok (.goto (-29), 3) := by decide +kernel
theorem dX8_undo_59 : decode cX8_undo 59 = .ok (.aload_n 0, 1) := by decide +kernel
theorem dX8_undo_60 : decode cX8_undo 60 = .ok (.getfield 109, 3) := by decide +kernel
theorem dX8_undo_63 : decode cX8_undo 63 = .ok (.ireturn, 1) := by decide +kernel
set_option maxRecDepth 20000 in
theorem ggX8_carries_X8_votesOf : GoodIn wsX8_carries wsX8_votesOf := goodIn_r _ [6, 7, 8, 18, 19, 20, 21, 22, 23, 24, 25, 26, 27, 28, 29, 30, 31, 32, 33, 34, 35, 36, 37, 38, 39, 40, 41] (by decide +kernel) (by decide +kernel)
set_option maxRecDepth 20000 in
theorem gX8_carries_X8_votesOf : GoodIn wsX8_carries (wsV RX8 116 RX8 yX8_votesOf wsX8_votesOf) := goodIn_app (goodIn_of _ (by decide +kernel)) ggX8_carries_X8_votesOf
set_option maxRecDepth 20000 in
theorem ggX8_carries_X8_voices : GoodIn wsX8_carries wsX8_voices := goodIn_r _ [12, 7, 13, 14, 15, 5, 16, 17, 18, 19, 20, 21, 22, 23, 24, 25, 26, 27, 28, 29, 30, 31, 32, 33, 34, 35, 36, 37, 38, 39, 40, 41] (by decide +kernel) (by decide +kernel)
set_option maxRecDepth 20000 in
theorem gX8_carries_X8_voices : GoodIn wsX8_carries (wsV RX8 119 RX8 yX8_voices wsX8_voices) := goodIn_app (goodIn_of _ (by decide +kernel)) ggX8_carries_X8_voices
theorem dX8_carries_0 : decode cX8_carries 0 = .ok (.iconst 2, 1) := by decide +kernel
theorem dX8_carries_1 : decode cX8_carries 1 = .ok (.aload_n 0, 1) := by decide +kernel
theorem dX8_carries_2 : decode cX8_carries 2 = .ok (.iload_n 1, 1) := by decide +kernel
theorem dX8_carries_3 : decode cX8_carries 3 = .ok (.invokevirtual 116, 3) := by decide +kernel
theorem dX8_carries_6 : decode cX8_carries 6 = .ok (.imul, 1) := by decide +kernel
theorem dX8_carries_7 : decode cX8_carries 7 = .ok (.aload_n 0, 1) := by decide +kernel
theorem dX8_carries_8 : decode cX8_carries 8 = .ok (.aload_n 0, 1) := by decide +kernel
theorem dX8_carries_9 : decode cX8_carries 9 = .ok (.aload_n 0, 1) := by decide +kernel
theorem dX8_carries_10 : decode cX8_carries 10 = .ok (.getfield 28, 3) := by decide +kernel
theorem dX8_carries_13 : decode cX8_carries 13 = .ok (.invokevirtual 119, 3) := by decide +kernel
theorem dX8_carries_16 : decode cX8_carries 16 = .ok (.invokevirtual 116, 3) := by decide +kernel
theorem dX8_carries_19 : decode cX8_carries 19 = .ok (.if_icmp .le 7, 3) := by decide +kernel
theorem dX8_carries_22 : decode cX8_carries 22 = .ok (.iconst 1, 1) := by decide +kernel
theorem dX8_carries_23 : decode cX8_carries 23 = .ok (.goto 4, 3) := by decide +kernel
theorem dX8_carries_26 : decode cX8_carries 26 = .ok (.iconst 0, 1) := by decide +kernel
theorem dX8_carries_27 : decode cX8_carries 27 = .ok (.ireturn, 1) := by decide +kernel
theorem dX8_orders_0 : decode cX8_orders 0 = .ok (.iconst 1, 1) := by decide +kernel
theorem dX8_orders_1 : decode cX8_orders 1 = .ok (.istore_n 1, 1) := by decide +kernel
theorem dX8_orders_2 : decode cX8_orders 2 = .ok (.iconst 2, 1) := by decide +kernel
theorem dX8_orders_3 : decode cX8_orders 3 = .ok (.istore_n 2, 1) := by decide +kernel
theorem dX8_orders_4 : decode cX8_orders 4 = .ok (.iload_n 2, 1) := by decide +kernel
theorem dX8_orders_5 : decode cX8_orders 5 = .ok (.iload_n 0, 1) := by decide +kernel
theorem dX8_orders_6 : decode cX8_orders 6 = .ok (.if_icmp .gt 13, 3) := by decide +kernel
theorem dX8_orders_9 : decode cX8_orders 9 = .ok (.iload_n 1, 1) := by decide +kernel
theorem dX8_orders_10 : decode cX8_orders 10 = .ok (.iload_n 2, 1) := by decide +kernel
theorem dX8_orders_11 : decode cX8_orders 11 = .ok (.imul, 1) := by decide +kernel
theorem dX8_orders_12 : decode cX8_orders 12 = .ok (.istore_n 1, 1) := by decide +kernel
theorem dX8_orders_13 : decode cX8_orders 13 = .ok (.iinc 2 1, 3) := by decide +kernel
theorem dX8_orders_16 : decode cX8_orders 16 = .ok (.goto (-12), 3) := by decide +kernel
theorem dX8_orders_19 : decode cX8_orders 19 = .ok (.iload_n 1, 1) := by decide +kernel
theorem dX8_orders_20 : decode cX8_orders 20 = .ok (.ireturn, 1) := by decide +kernel
set_option maxRecDepth 20000 in
theorem ggX8_decides_X8_voices : GoodIn wsX8_decides wsX8_voices := goodIn_r _ [6, 7, 8, 9, 10, 5, 11, 12, 28, 29, 30, 31, 32, 33, 34, 35, 36, 37, 38, 39, 40, 41, 42, 43, 44, 45, 46, 47, 48, 49, 50, 51] (by decide +kernel) (by decide +kernel)
set_option maxRecDepth 20000 in
theorem gX8_decides_X8_voices : GoodIn wsX8_decides (wsV RX8 119 RX8 yX8_voices wsX8_voices) := goodIn_app (goodIn_of _ (by decide +kernel)) ggX8_decides_X8_voices
set_option maxRecDepth 20000 in
theorem ggX8_decides_X8_carries : GoodIn wsX8_decides wsX8_carries := goodIn_r _ [16, 1, 17, 18, 19, 5, 20, 7, 21, 2, 3, 4, 6, 8, 9, 10, 11, 12, 28, 29, 30, 31, 32, 33, 34, 35, 36, 37, 38, 39, 40, 41, 42, 43, 44, 45, 46, 47, 48, 49, 50, 51] (by decide +kernel) (by decide +kernel)
set_option maxRecDepth 20000 in
theorem gX8_decides_X8_carries : GoodIn wsX8_decides (wsV RX8 157 RX8 yX8_carries wsX8_carries) := goodIn_app (goodIn_of _ (by decide +kernel)) ggX8_decides_X8_carries
set_option maxRecDepth 20000 in
theorem ggX8_decides_X8_ones : GoodIn wsX8_decides wsX8_ones := goodIn_r _ [24] (by decide +kernel) (by decide +kernel)
set_option maxRecDepth 20000 in
theorem gX8_decides_X8_ones : GoodIn wsX8_decides (va_wsS RX8 154 yX8_ones wsX8_ones) := goodIn_app (goodIn_of _ (by decide +kernel)) ggX8_decides_X8_ones
set_option maxRecDepth 20000 in
theorem ggX8_decides_X8_orders : GoodIn wsX8_decides wsX8_orders := goodIn_r _ [27] (by decide +kernel) (by decide +kernel)
set_option maxRecDepth 20000 in
theorem gX8_decides_X8_orders : GoodIn wsX8_decides (va_wsS RX8 160 yX8_orders wsX8_orders) := goodIn_app (goodIn_of _ (by decide +kernel)) ggX8_decides_X8_orders
theorem dX8_decides_0 : decode cX8_decides 0 = .ok (.aload_n 0, 1) := by decide +kernel
theorem dX8_decides_1 : decode cX8_decides 1 = .ok (.aload_n 0, 1) := by decide +kernel
theorem dX8_decides_2 : decode cX8_decides 2 = .ok (.getfield 28, 3) := by decide +kernel
theorem dX8_decides_5 : decode cX8_decides 5 = .ok (.invokevirtual 119, 3) := by decide +kernel
theorem dX8_decides_8 : decode cX8_decides 8 = .ok (.istore_n 2, 1) := by decide +kernel
theorem dX8_decides_9 : decode cX8_decides 9 = .ok (.iconst 0, 1) := by decide +kernel
theorem dX8_decides_10 : decode cX8_decides 10 = .ok (.istore_n 3, 1) := by decide +kernel
theorem dX8_decides_11 : decode cX8_decides 11 = .ok (.iconst 0, 1) := by decide +kernel
theorem dX8_decides_12 : decode cX8_decides 12 = .ok (.istore 4, 2) := by decide +kernel
theorem dX8_decides_14 : decode cX8_decides 14 = .ok (.iload 4, 2) := by decide +kernel
theorem dX8_decides_16 : decode cX8_decides 16 = .ok (.sipush 128, 3) := by decide +kernel
theorem dX8_decides_19 : decode cX8_decides 19 = .ok (.if_icmp .ge 92, 3) := by decide +kernel
theorem dX8_decides_22 : decode cX8_decides 22 = .ok (.iload 4, 2) := by decide +kernel
theorem dX8_decides_24 : decode cX8_decides 24 = .ok (.iload_n 2, 1) := by decide +kernel
theorem dX8_decides_25 : decode cX8_decides 25 = .ok (.iconst (-1), 1) := by decide +kernel
theorem dX8_decides_26 : decode cX8_decides 26 = .ok (.ixor, 1) := by decide +kernel
theorem dX8_decides_27 : decode cX8_decides 27 = .ok (.iand, 1) := by decide +kernel
theorem dX8_decides_28 : decode cX8_decides 28 = .ok (.ifCond .ne 16, 3) := by decide +kernel
theorem dX8_decides_31 : decode cX8_decides 31 = .ok (.iload 4, 2) := by decide +kernel
theorem dX8_decides_33 : decode cX8_decides 33 = .ok (.iload_n 1, 1) := by decide +kernel
theorem dX8_decides_34 : decode cX8_decides 34 = .ok (.ishr, 1) := by decide +kernel
theorem dX8_decides_35 : decode cX8_decides 35 = .ok (.iconst 1, 1) := by decide +kernel
theorem dX8_decides_36 : decode cX8_decides 36 = .ok (.iand, 1) := by decide +kernel
theorem dX8_decides_37 : decode cX8_decides 37 = .ok (.ifCond .ne 7, 3) := by decide +kernel
theorem dX8_decides_40 : decode cX8_decides 40 = .ok (.iconst 1, 1) := by decide +kernel
theorem dX8_decides_41 : decode cX8_decides 41 = .ok (.goto 4, 3) := by decide +kernel
theorem dX8_decides_44 : decode cX8_decides 44 = .ok (.iconst 0, 1) := by decide +kernel
theorem dX8_decides_45 : decode cX8_decides 45 = .ok (.istore 5, 2) := by decide +kernel
theorem dX8_decides_47 : decode cX8_decides 47 = .ok (.iload_n 3, 1) := by decide +kernel
theorem dX8_decides_48 : decode cX8_decides 48 = .ok (.iload 5, 2) := by decide +kernel
theorem dX8_decides_50 : decode cX8_decides 50 = .ok (.ifCond .eq 52, 3) := by decide +kernel
theorem dX8_decides_53 : decode cX8_decides 53 = .ok (.aload_n 0, 1) := by decide +kernel
theorem dX8_decides_54 : decode cX8_decides 54 = .ok (.iload 4, 2) := by decide +kernel
theorem dX8_decides_56 : decode cX8_decides 56 = .ok (.invokevirtual 157, 3) := by decide +kernel
theorem dX8_decides_59 : decode cX8_decides 59 = .ok (.ifCond .ne 43, 3) := by decide +kernel
theorem dX8_decides_62 : decode cX8_decides 62 = .ok (.aload_n 0, 1) := by decide +kernel
theorem dX8_decides_63 : decode cX8_decides 63 = .ok (.iload 4, 2) := by decide +kernel
theorem dX8_decides_65 : decode cX8_decides 65 = .ok (.iconst 1, 1) := by decide +kernel
theorem dX8_decides_66 : decode cX8_decides 66 = .ok (.iload_n 1, 1) := by decide +kernel
theorem dX8_decides_67 : decode cX8_decides 67 = .ok (.ishl, 1) := by decide +kernel
theorem dX8_decides_68 : decode cX8_decides 68 = .ok (.ior, 1) := by decide +kernel
theorem dX8_decides_69 : decode cX8_decides 69 = .ok (.invokevirtual 157, 3) := by decide +kernel
theorem dX8_decides_72 : decode cX8_decides 72 = .ok (.ifCond .eq 30, 3) := by decide +kernel
theorem dX8_decides_75 : decode cX8_decides 75 = .ok (.iload 4, 2) := by decide +kernel
theorem dX8_decides_77 : decode cX8_decides 77 = .ok (.invokestatic 154, 3) := by decide +kernel
theorem dX8_decides_80 : decode cX8_decides 80 = .ok (.invokestatic 160, 3) := by decide +kernel
theorem dX8_decides_83 : decode cX8_decides 83 = .ok (.iload_n 2, 1) := by decide +kernel
theorem dX8_decides_84 : decode cX8_decides 84 = .ok (.invokestatic 154, 3) := by decide +kernel
theorem dX8_decides_87 : decode cX8_decides 87 = .ok (.iconst 1, 1) := by decide +kernel
theorem dX8_decides_88 : decode cX8_decides 88 = .ok (.isub, 1) := by decide +kernel
theorem dX8_decides_89 : decode cX8_decides 89 = .ok (.iload 4, 2) := by decide +kernel
theorem dX8_decides_91 : decode cX8_decides 91 = .ok (.invokestatic 154, 3) := by decide +kernel
theorem dX8_decides_94 : decode cX8_decides 94 = .ok (.isub, 1) := by decide +kernel
theorem dX8_decides_95 : decode cX8_decides 95 = .ok (.invokestatic 160, 3) := by decide +kernel
theorem dX8_decides_98 : decode cX8_decides 98 = .ok (.imul, 1) := by decide +kernel
theorem dX8_decides_99 : decode cX8_decides 99 = .ok (.goto 4, 3) := by decide +kernel
theorem dX8_decides_102 : decode cX8_decides 102 = .ok (.iconst 0, 1) := by decide +kernel
theorem dX8_decides_103 : decode cX8_decides 103 = .ok (.iadd, 1) := by decide +kernel
theorem dX8_decides_104 : decode cX8_decides 104 = .ok (.istore_n 3, 1) := by decide +kernel
theorem dX8_decides_105 : decode cX8_decides 105 = .ok (.iinc 4 1, 3) := by decide +kernel
theorem dX8_decides_108 : decode cX8_decides 108 = .ok (.goto (-94), 3) := by decide +kernel
theorem dX8_decides_111 : decode cX8_decides 111 = .ok (.iload_n 3, 1) := by decide +kernel
theorem dX8_decides_112 : decode cX8_decides 112 = .ok (.ireturn, 1) := by decide +kernel
theorem dX8_gcd_0 : decode cX8_gcd 0 = .ok (.iload_n 0, 1) := by decide +kernel
theorem dX8_gcd_1 : decode cX8_gcd 1 = .ok (.istore_n 2, 1) := by decide +kernel
theorem dX8_gcd_2 : decode cX8_gcd 2 = .ok (.iload_n 1, 1) := by decide +kernel
theorem dX8_gcd_3 : decode cX8_gcd 3 = .ok (.istore_n 3, 1) := by decide +kernel
theorem dX8_gcd_4 : decode cX8_gcd 4 = .ok (.iload_n 3, 1) := by decide +kernel
theorem dX8_gcd_5 : decode cX8_gcd 5 = .ok (.ifCond .eq 16, 3) := by decide +kernel
theorem dX8_gcd_8 : decode cX8_gcd 8 = .ok (.iload_n 2, 1) := by decide +kernel
theorem dX8_gcd_9 : decode cX8_gcd 9 = .ok (.iload_n 3, 1) := by decide +kernel
theorem dX8_gcd_10 : decode cX8_gcd 10 = .ok (.irem, 1) := by decide +kernel
theorem dX8_gcd_11 : decode cX8_gcd 11 = .ok (.istore 4, 2) := by decide +kernel
theorem dX8_gcd_13 : decode cX8_gcd 13 = .ok (.iload_n 3, 1) := by decide +kernel
theorem dX8_gcd_14 : decode cX8_gcd 14 = .ok (.istore_n 2, 1) := by decide +kernel
theorem dX8_gcd_15 : decode cX8_gcd 15 = .ok (.iload 4, 2) := by decide +kernel
theorem dX8_gcd_17 : decode cX8_gcd 17 = .ok (.istore_n 3, 1) := by decide +kernel
theorem dX8_gcd_18 : decode cX8_gcd 18 = .ok (.goto (-14), 3) := by decide +kernel
theorem dX8_gcd_21 : decode cX8_gcd 21 = .ok (.iload_n 2, 1) := by decide +kernel
theorem dX8_gcd_22 : decode cX8_gcd 22 = .ok (.ireturn, 1) := by decide +kernel
set_option maxRecDepth 20000 in
theorem ggX8_power_X8_isThing : GoodIn wsX8_power wsX8_isThing := goodIn_r _ [7, 8, 9, 10, 6, 11, 43, 44, 45, 46, 47, 48, 49, 50, 51, 52, 53, 54, 55, 56, 57, 58, 59, 60, 61, 62, 63, 64, 65, 66] (by decide +kernel) (by decide +kernel)
set_option maxRecDepth 20000 in
theorem gX8_power_X8_isThing : GoodIn wsX8_power (wsV RX8 131 RX8 yX8_isThing wsX8_isThing) := goodIn_app (goodIn_of _ (by decide +kernel)) ggX8_power_X8_isThing
set_option maxRecDepth 20000 in
theorem ggX8_power_X8_in : GoodIn wsX8_power wsX8_in := goodIn_r _ [11] (by decide +kernel) (by decide +kernel)
set_option maxRecDepth 20000 in
theorem gX8_power_X8_in : GoodIn wsX8_power (va_wsS RX8 54 yX8_in wsX8_in) := goodIn_app (goodIn_of _ (by decide +kernel)) ggX8_power_X8_in
set_option maxRecDepth 20000 in
theorem ggX8_power_X8_speaks : GoodIn wsX8_power wsX8_speaks := goodIn_r _ [15, 16, 43, 44, 45, 46, 47, 48, 49, 50, 51, 52, 53, 54, 55, 56, 57, 58, 59, 60, 61, 62, 63, 64, 65, 66] (by decide +kernel) (by decide +kernel)
set_option maxRecDepth 20000 in
theorem gX8_power_X8_speaks : GoodIn wsX8_power (wsV RX8 112 RX8 yX8_speaks wsX8_speaks) := goodIn_app (goodIn_of _ (by decide +kernel)) ggX8_power_X8_speaks
set_option maxRecDepth 20000 in
theorem ggX8_power_X8_decides : GoodIn wsX8_power wsX8_decides := goodIn_r _ [20, 2, 21, 22, 23, 6, 24, 8, 12, 13, 14, 15, 16, 25, 26, 27, 28, 29, 30, 31, 32, 33, 34, 35, 36, 37, 38, 39, 43, 44, 45, 46, 47, 48, 49, 50, 51, 52, 53, 54, 55, 56, 57, 58, 59, 60, 61, 62, 63, 64, 65, 66] (by decide +kernel) (by decide +kernel)
set_option maxRecDepth 20000 in
theorem gX8_power_X8_decides : GoodIn wsX8_power (wsV RX8 163 RX8 yX8_decides wsX8_decides) := goodIn_app (goodIn_of _ (by decide +kernel)) ggX8_power_X8_decides
set_option maxRecDepth 20000 in
theorem ggX8_power_X8_voices : GoodIn wsX8_power wsX8_voices := goodIn_r _ [24, 8, 12, 13, 14, 6, 15, 16, 43, 44, 45, 46, 47, 48, 49, 50, 51, 52, 53, 54, 55, 56, 57, 58, 59, 60, 61, 62, 63, 64, 65, 66] (by decide +kernel) (by decide +kernel)
set_option maxRecDepth 20000 in
theorem gX8_power_X8_voices : GoodIn wsX8_power (wsV RX8 119 RX8 yX8_voices wsX8_voices) := goodIn_app (goodIn_of _ (by decide +kernel)) ggX8_power_X8_voices
set_option maxRecDepth 20000 in
theorem ggX8_power_X8_ones : GoodIn wsX8_power wsX8_ones := goodIn_r _ [36] (by decide +kernel) (by decide +kernel)
set_option maxRecDepth 20000 in
theorem gX8_power_X8_ones : GoodIn wsX8_power (va_wsS RX8 154 yX8_ones wsX8_ones) := goodIn_app (goodIn_of _ (by decide +kernel)) ggX8_power_X8_ones
set_option maxRecDepth 20000 in
theorem ggX8_power_X8_orders : GoodIn wsX8_power wsX8_orders := goodIn_r _ [39] (by decide +kernel) (by decide +kernel)
set_option maxRecDepth 20000 in
theorem gX8_power_X8_orders : GoodIn wsX8_power (va_wsS RX8 160 yX8_orders wsX8_orders) := goodIn_app (goodIn_of _ (by decide +kernel)) ggX8_power_X8_orders
set_option maxRecDepth 20000 in
theorem ggX8_power_X8_gcd : GoodIn wsX8_power wsX8_gcd := goodIn_r _ [42] (by decide +kernel) (by decide +kernel)
set_option maxRecDepth 20000 in
theorem gX8_power_X8_gcd : GoodIn wsX8_power (va_wsS RX8 166 yX8_gcd wsX8_gcd) := goodIn_app (goodIn_of _ (by decide +kernel)) ggX8_power_X8_gcd
theorem dX8_power_0 : decode cX8_power 0 = .ok (.aload_n 0, 1) := by decide +kernel
theorem dX8_power_1 : decode cX8_power 1 = .ok (.iconst 0, 1) := by decide +kernel
theorem dX8_power_2 : decode cX8_power 2 = .ok (.putfield 50, 3) := by decide +kernel
theorem dX8_power_5 : decode cX8_power 5 = .ok (.aload_n 0, 1) := by decide +kernel
theorem dX8_power_6 : decode cX8_power 6 = .ok (.iload_n 1, 1) := by decide +kernel
theorem dX8_power_7 : decode cX8_power 7 = .ok (.invokevirtual 131, 3) := by decide +kernel
theorem dX8_power_10 : decode cX8_power 10 = .ok (.ifCond .eq 12, 3) := by decide +kernel
theorem dX8_power_13 : decode cX8_power 13 = .ok (.iload_n 2, 1) := by decide +kernel
theorem dX8_power_14 : decode cX8_power 14 = .ok (.iconst 0, 1) := by decide +kernel
theorem dX8_power_15 : decode cX8_power 15 = .ok (.iconst 1, 1) := by decide +kernel
theorem dX8_power_16 : decode cX8_power 16 = .ok (.invokestatic 54, 3) := by decide +kernel
theorem dX8_power_19 : decode cX8_power 19 = .ok (.ifCond .ne 5, 3) := by decide +kernel
theorem dX8_power_22 : decode cX8_power 22 = .ok (.iconst (-1), 1) := by decide +kernel
theorem dX8_power_23 : decode cX8_power 23 = .ok (.ireturn, 1) := by decide +kernel
theorem dX8_power_24 : decode cX8_power 24 = .ok (.aload_n 0, 1) := by decide +kernel
theorem dX8_power_25 : decode cX8_power 25 = .ok (.aload_n 0, 1) := by decide +kernel
theorem dX8_power_26 : decode cX8_power 26 = .ok (.getfield 28, 3) := by decide +kernel
theorem dX8_power_29 : decode cX8_power 29 = .ok (.iload_n 1, 1) := by decide +kernel
theorem dX8_power_30 : decode cX8_power 30 = .ok (.invokevirtual 112, 3) := by decide +kernel
theorem dX8_power_33 : decode cX8_power 33 = .ok (.ifCond .ne 5, 3) := by decide +kernel
theorem dX8_power_36 : decode cX8_power 36 = .ok (.iload_n 2, 1) := by decide +kernel
theorem dX8_power_37 : decode cX8_power 37 = .ok (.ireturn, 1) := by decide +kernel
theorem dX8_power_38 : decode cX8_power 38 = .ok (.aload_n 0, 1) := by decide +kernel
theorem dX8_power_39 : decode cX8_power 39 = .ok (.iload_n 1, 1) := by decide +kernel
theorem dX8_power_40 : decode cX8_power 40 = .ok (.invokevirtual 163, 3) := by decide +kernel
theorem dX8_power_43 : decode cX8_power 43 = .ok (.istore_n 3, 1) := by decide +kernel
theorem dX8_power_44 : decode cX8_power 44 = .ok (.aload_n 0, 1) := by decide +kernel
theorem dX8_power_45 : decode cX8_power 45 = .ok (.aload_n 0, 1) := by decide +kernel
theorem dX8_power_46 : decode cX8_power 46 = .ok (.getfield 28, 3) := by decide +kernel
theorem dX8_power_49 : decode cX8_power 49 = .ok (.invokevirtual 119, 3) := by decide +kernel
theorem dX8_power_52 : decode cX8_power 52 = .ok (.invokestatic 154, 3) := by decide +kernel
theorem dX8_power_55 : decode cX8_power 55 = .ok (.invokestatic 160, 3) := by decide +kernel
theorem dX8_power_58 : decode cX8_power 58 = .ok (.istore 4, 2) := by decide +kernel
theorem dX8_power_60 : decode cX8_power 60 = .ok (.iload_n 3, 1) := by decide +kernel
theorem dX8_power_61 : decode cX8_power 61 = .ok (.iload 4, 2) := by decide +kernel
theorem dX8_power_63 : decode cX8_power 63 = .ok (.invokestatic 166, 3) := by decide +kernel
theorem dX8_power_66 : decode cX8_power 66 = .ok (.istore 5, 2) := by decide +kernel
theorem dX8_power_68 : decode cX8_power 68 = .ok (.iload_n 2, 1) := by decide +kernel
theorem dX8_power_69 : decode cX8_power 69 = .ok (.ifCond .ne 10, 3) := by decide +kernel
theorem dX8_power_72 : decode cX8_power 72 = .ok (.iload_n 3, 1) := by decide +kernel
theorem dX8_power_73 : decode cX8_power 73 = .ok (.iload 5, 2) := by decide +kernel
theorem dX8_power_75 : decode cX8_power 75 = .ok (.idiv, 1) := by decide +kernel
theorem dX8_power_76 : decode cX8_power 76 = .ok (.goto 8, 3) := by decide +kernel
theorem dX8_power_79 : decode cX8_power 79 = .ok (.iload 4, 2) := by decide +kernel
theorem dX8_power_81 : decode cX8_power 81 = .ok (.iload 5, 2) := by decide +kernel
theorem dX8_power_83 : decode cX8_power 83 = .ok (.idiv, 1) := by decide +kernel
theorem dX8_power_84 : decode cX8_power 84 = .ok (.ireturn, 1) := by decide +kernel
set_option maxRecDepth 20000 in
theorem ggX8_isLeast_X8_voices : GoodIn wsX8_isLeast wsX8_voices := goodIn_r _ [7, 2, 8, 9, 10, 6, 11, 12, 22, 23, 24, 25, 26, 27, 28, 29, 30, 31, 32, 33, 34, 35, 36, 37, 38, 39, 40, 41, 42, 43, 44, 45] (by decide +kernel) (by decide +kernel)
set_option maxRecDepth 20000 in
theorem gX8_isLeast_X8_voices : GoodIn wsX8_isLeast (wsV RX8 119 RX8 yX8_voices wsX8_voices) := goodIn_app (goodIn_of _ (by decide +kernel)) ggX8_isLeast_X8_voices
set_option maxRecDepth 20000 in
theorem ggX8_isLeast_X8_carries : GoodIn wsX8_isLeast wsX8_carries := goodIn_r _ [16, 1, 17, 18, 19, 6, 20, 2, 21, 3, 4, 5, 7, 8, 9, 10, 11, 12, 22, 23, 24, 25, 26, 27, 28, 29, 30, 31, 32, 33, 34, 35, 36, 37, 38, 39, 40, 41, 42, 43, 44, 45] (by decide +kernel) (by decide +kernel)
set_option maxRecDepth 20000 in
theorem gX8_isLeast_X8_carries : GoodIn wsX8_isLeast (wsV RX8 157 RX8 yX8_carries wsX8_carries) := goodIn_app (goodIn_of _ (by decide +kernel)) ggX8_isLeast_X8_carries
theorem dX8_isLeast_0 : decode cX8_isLeast 0 = .ok (.iload_n 1, 1) := by decide +kernel
theorem dX8_isLeast_1 : decode cX8_isLeast 1 = .ok (.aload_n 0, 1) := by decide +kernel
theorem dX8_isLeast_2 : decode cX8_isLeast 2 = .ok (.aload_n 0, 1) := by decide +kernel
theorem dX8_isLeast_3 : decode cX8_isLeast 3 = .ok (.getfield 28, 3) := by decide +kernel
theorem dX8_isLeast_6 : decode cX8_isLeast 6 = .ok (.invokevirtual 119, 3) := by decide +kernel
theorem dX8_isLeast_9 : decode cX8_isLeast 9 = .ok (.iconst (-1), 1) := by decide +kernel
theorem dX8_isLeast_10 : decode cX8_isLeast 10 = .ok (.ixor, 1) := by decide +kernel
theorem dX8_isLeast_11 : decode cX8_isLeast 11 = .ok (.iand, 1) := by decide +kernel
theorem dX8_isLeast_12 : decode cX8_isLeast 12 = .ok (.ifCond .ne 15, 3) := by decide +kernel
theorem dX8_isLeast_15 : decode cX8_isLeast 15 = .ok (.aload_n 0, 1) := by decide +kernel
theorem dX8_isLeast_16 : decode cX8_isLeast 16 = .ok (.iload_n 1, 1) := by decide +kernel
theorem dX8_isLeast_17 : decode cX8_isLeast 17 = .ok (.invokevirtual 157, 3) := by decide +kernel
theorem dX8_isLeast_20 : decode cX8_isLeast 20 = .ok (.ifCond .eq 7, 3) := by decide +kernel
theorem dX8_isLeast_23 : decode cX8_isLeast 23 = .ok (.iconst 1, 1) := by decide +kernel
theorem dX8_isLeast_24 : decode cX8_isLeast 24 = .ok (.goto 4, 3) := by decide +kernel
theorem dX8_isLeast_27 : decode cX8_isLeast 27 = .ok (.iconst 0, 1) := by decide +kernel
theorem dX8_isLeast_28 : decode cX8_isLeast 28 = .ok (.istore_n 2, 1) := by decide +kernel
theorem dX8_isLeast_29 : decode cX8_isLeast 29 = .ok (.iconst 0, 1) := by decide +kernel
theorem dX8_isLeast_30 : decode cX8_isLeast 30 = .ok (.istore_n 3, 1) := by decide +kernel
theorem dX8_isLeast_31 : decode cX8_isLeast 31 = .ok (.iload_n 3, 1) := by decide +kernel
theorem dX8_isLeast_32 : decode cX8_isLeast 32 = .ok (.aload_n 0, 1) := by decide +kernel
theorem dX8_isLeast_33 : decode cX8_isLeast 33 = .ok (.getfield 13, 3) := by decide +kernel
theorem dX8_isLeast_36 : decode cX8_isLeast 36 = .ok (.iconst 0, 1) := by decide +kernel
theorem dX8_isLeast_37 : decode cX8_isLeast 37 = .ok (.iaload, 1) := by decide +kernel
theorem dX8_isLeast_38 : decode cX8_isLeast 38 = .ok (.if_icmp .ge 41, 3) := by decide +kernel
theorem dX8_isLeast_41 : decode cX8_isLeast 41 = .ok (.iload_n 2, 1) := by decide +kernel
theorem dX8_isLeast_42 : decode cX8_isLeast 42 = .ok (.ifCond .eq 29, 3) := by decide +kernel
theorem dX8_isLeast_45 : decode cX8_isLeast 45 = .ok (.iload_n 1, 1) := by decide +kernel
theorem dX8_isLeast_46 : decode cX8_isLeast 46 = .ok (.iload_n 3, 1) := by decide +kernel
theorem dX8_isLeast_47 : decode cX8_isLeast 47 = .ok (.ishr, 1) := by decide +kernel
theorem dX8_isLeast_48 : decode cX8_isLeast 48 = .ok (.iconst 1, 1) := by decide +kernel
theorem dX8_isLeast_49 : decode cX8_isLeast 49 = .ok (.iand, 1) := by decide +kernel
theorem dX8_isLeast_50 : decode cX8_isLeast 50 = .ok (.ifCond .eq 17, 3) := by decide +kernel
theorem dX8_isLeast_53 : decode cX8_isLeast 53 = .ok (.aload_n 0, 1) := by decide +kernel
theorem dX8_isLeast_54 : decode cX8_isLeast 54 = .ok (.iload_n 1, 1) := by decide +kernel
theorem dX8_isLeast_55 : decode cX8_isLeast 55 = .ok (.iconst 1, 1) := by decide +kernel
theorem dX8_isLeast_56 : decode cX8_isLeast 56 = .ok (.iload_n 3, 1) := by decide +kernel
theorem dX8_isLeast_57 : decode cX8_isLeast 57 = .ok (.ishl, 1) := by decide +kernel
theorem dX8_isLeast_58 : decode cX8_isLeast 58 = .ok (.iconst (-1), 1) := by decide +kernel
theorem dX8_isLeast_59 : decode cX8_isLeast 59 = .ok (.ixor, 1) := by decide +kernel
theorem dX8_isLeast_60 : decode cX8_isLeast 60 = .ok (.iand, 1) := by decide +kernel
theorem dX8_isLeast_61 : decode cX8_isLeast 61 = .ok (.invokevirtual 157, 3) := by decide +kernel
theorem dX8_isLeast_64 : decode cX8_isLeast 64 = .ok (.ifCond .ne 7, 3) := by decide +kernel
theorem dX8_isLeast_67 : decode cX8_isLeast 67 = .ok (.iconst 1, 1) := by decide +kernel
theorem dX8_isLeast_68 : decode cX8_isLeast 68 = .ok (.goto 4, 3) := by decide +kernel
theorem dX8_isLeast_71 : decode cX8_isLeast 71 = .ok (.iconst 0, 1) := by decide +kernel
theorem dX8_isLeast_72 : decode cX8_isLeast 72 = .ok (.istore_n 2, 1) := by decide +kernel
theorem dX8_isLeast_73 : decode cX8_isLeast 73 = .ok (.iinc 3 1, 3) := by decide +kernel
theorem dX8_isLeast_76 : decode cX8_isLeast 76 = .ok (.goto (-45), 3) := by decide +kernel
theorem dX8_isLeast_79 : decode cX8_isLeast 79 = .ok (.iload_n 2, 1) := by decide +kernel
theorem dX8_isLeast_80 : decode cX8_isLeast 80 = .ok (.ireturn, 1) := by decide +kernel
set_option maxRecDepth 20000 in
theorem ggX8_least_X8_in : GoodIn wsX8_least wsX8_in := goodIn_r _ [5] (by decide +kernel) (by decide +kernel)
set_option maxRecDepth 20000 in
theorem gX8_least_X8_in : GoodIn wsX8_least (va_wsS RX8 54 yX8_in wsX8_in) := goodIn_app (goodIn_of _ (by decide +kernel)) ggX8_least_X8_in
set_option maxRecDepth 20000 in
theorem ggX8_least_X8_isLeast : GoodIn wsX8_least wsX8_isLeast := goodIn_r _ [9, 10, 11, 12, 13, 14, 4, 15, 16, 17, 18, 19, 20, 21, 22, 23, 24, 25, 26, 27, 28, 29, 30, 31, 32, 33, 34, 35, 36, 37, 38, 39, 40, 41, 42, 43, 44, 45, 46, 47, 48, 49, 50, 51, 52, 53] (by decide +kernel) (by decide +kernel)
set_option maxRecDepth 20000 in
theorem gX8_least_X8_isLeast : GoodIn wsX8_least (wsV RX8 169 RX8 yX8_isLeast wsX8_isLeast) := goodIn_app (goodIn_of _ (by decide +kernel)) ggX8_least_X8_isLeast
theorem dX8_least_0 : decode cX8_least 0 = .ok (.aload_n 0, 1) := by decide +kernel
theorem dX8_least_1 : decode cX8_least 1 = .ok (.iconst 0, 1) := by decide +kernel
theorem dX8_least_2 : decode cX8_least 2 = .ok (.putfield 50, 3) := by decide +kernel
theorem dX8_least_5 : decode cX8_least 5 = .ok (.iload_n 1, 1) := by decide +kernel
theorem dX8_least_6 : decode cX8_least 6 = .ok (.iconst 0, 1) := by decide +kernel
theorem dX8_least_7 : decode cX8_least 7 = .ok (.iconst 1, 1) := by decide +kernel
theorem dX8_least_8 : decode cX8_least 8 = .ok (.invokestatic 54, 3) := by decide +kernel
theorem dX8_least_11 : decode cX8_least 11 = .ok (.ifCond .ne 5, 3) := by decide +kernel
theorem dX8_least_14 : decode cX8_least 14 = .ok (.iconst (-1), 1) := by decide +kernel
theorem dX8_least_15 : decode cX8_least 15 = .ok (.ireturn, 1) := by decide +kernel
theorem dX8_least_16 : decode cX8_least 16 = .ok (.iconst 0, 1) := by decide +kernel
theorem dX8_least_17 : decode cX8_least 17 = .ok (.istore_n 2, 1) := by decide +kernel
theorem dX8_least_18 : decode cX8_least 18 = .ok (.bipush (-9), 2) := by decide +kernel
theorem dX8_least_20 : decode cX8_least 20 = .ok (.istore_n 3, 1) := by decide +kernel
theorem dX8_least_21 : decode cX8_least 21 = .ok (.iconst 0, 1) := by decide +kernel
theorem dX8_least_22 : decode cX8_least 22 = .ok (.istore 4, 2) := by decide +kernel
theorem dX8_least_24 : decode cX8_least 24 = .ok (.iload 4, 2) := by decide +kernel
theorem dX8_least_26 : decode cX8_least 26 = .ok (.sipush 128, 3) := by decide +kernel
theorem dX8_least_29 : decode cX8_least 29 = .ok (.if_icmp .ge 32, 3) := by decide +kernel
theorem dX8_least_32 : decode cX8_least 32 = .ok (.aload_n 0, 1) := by decide +kernel
theorem dX8_least_33 : decode cX8_least 33 = .ok (.iload 4, 2) := by decide +kernel
theorem dX8_least_35 : decode cX8_least 35 = .ok (.invokevirtual 169, 3) := by decide +kernel
theorem dX8_least_38 : decode cX8_least 38 = .ok (.ifCond .eq 17, 3) := by decide +kernel
theorem dX8_least_41 : decode cX8_least 41 = .ok (.iload_n 2, 1) := by decide +kernel
theorem dX8_least_42 : decode cX8_least 42 = .ok (.ifCond .ne 8, 3) := by decide +kernel
theorem dX8_least_45 : decode cX8_least 45 = .ok (.iload 4, 2) := by decide +kernel
theorem dX8_least_47 : decode cX8_least 47 = .ok (.goto 4, 3) := by decide +kernel
theorem dX8_least_50 : decode cX8_least 50 = .ok (.iload_n 3, 1) := by decide +kernel
theorem dX8_least_51 : decode cX8_least 51 = .ok (.istore_n 3, 1) := by decide +kernel
theorem dX8_least_52 : decode cX8_least 52 = .ok (.iinc 2 1, 3) := by decide +kernel
theorem dX8_least_55 : decode cX8_least 55 = .ok (.iinc 4 1, 3) := by decide +kernel
theorem dX8_least_58 : decode cX8_least 58 = .ok (.goto (-34), 3) := by decide +kernel
theorem dX8_least_61 : decode cX8_least 61 = .ok (.iload_n 1, 1) := by decide +kernel
theorem dX8_least_62 : decode cX8_least 62 = .ok (.ifCond .ne 7, 3) := by decide +kernel
theorem dX8_least_65 : decode cX8_least 65 = .ok (.iload_n 2, 1) := by decide +kernel
theorem dX8_least_66 : decode cX8_least 66 = .ok (.goto 4, 3) := by decide +kernel
theorem dX8_least_69 : decode cX8_least 69 = .ok (.iload_n 3, 1) := by decide +kernel
theorem dX8_least_70 : decode cX8_least 70 = .ok (.ireturn, 1) := by decide +kernel
set_option maxRecDepth 20000 in
theorem ggX8_dummies_X8_speaks : GoodIn wsX8_dummies wsX8_speaks := goodIn_r _ [8, 9, 33, 34, 35, 36, 37, 38, 39, 40, 41, 42, 43, 44, 45, 46, 47, 48, 49, 50, 51, 52, 53, 54, 55, 56] (by decide +kernel) (by decide +kernel)
set_option maxRecDepth 20000 in
theorem gX8_dummies_X8_speaks : GoodIn wsX8_dummies (wsV RX8 112 RX8 yX8_speaks wsX8_speaks) := goodIn_app (goodIn_of _ (by decide +kernel)) ggX8_dummies_X8_speaks
set_option maxRecDepth 20000 in
theorem ggX8_dummies_X8_decides : GoodIn wsX8_dummies wsX8_decides := goodIn_r _ [13, 3, 14, 15, 16, 7, 17, 2, 4, 5, 6, 8, 9, 18, 19, 20, 21, 22, 23, 24, 25, 26, 27, 28, 29, 30, 31, 32, 33, 34, 35, 36, 37, 38, 39, 40, 41, 42, 43, 44, 45, 46, 47, 48, 49, 50, 51, 52, 53, 54, 55, 56] (by decide +kernel) (by decide +kernel)
set_option maxRecDepth 20000 in
theorem gX8_dummies_X8_decides : GoodIn wsX8_dummies (wsV RX8 163 RX8 yX8_decides wsX8_decides) := goodIn_app (goodIn_of _ (by decide +kernel)) ggX8_dummies_X8_decides
theorem dX8_dummies_0 : decode cX8_dummies 0 = .ok (.aload_n 0, 1) := by decide +kernel
theorem dX8_dummies_1 : decode cX8_dummies 1 = .ok (.iconst 0, 1) := by decide +kernel
theorem dX8_dummies_2 : decode cX8_dummies 2 = .ok (.putfield 50, 3) := by decide +kernel
theorem dX8_dummies_5 : decode cX8_dummies 5 = .ok (.iconst 0, 1) := by decide +kernel
theorem dX8_dummies_6 : decode cX8_dummies 6 = .ok (.istore_n 1, 1) := by decide +kernel
theorem dX8_dummies_7 : decode cX8_dummies 7 = .ok (.iconst 0, 1) := by decide +kernel
theorem dX8_dummies_8 : decode cX8_dummies 8 = .ok (.istore_n 2, 1) := by decide +kernel
theorem dX8_dummies_9 : decode cX8_dummies 9 = .ok (.iload_n 2, 1) := by decide +kernel
theorem dX8_dummies_10 : decode cX8_dummies 10 = .ok (.aload_n 0, 1) := by decide +kernel
theorem dX8_dummies_11 : decode cX8_dummies 11 = .ok (.getfield 13, 3) := by decide +kernel
theorem dX8_dummies_14 : decode cX8_dummies 14 = .ok (.iconst 0, 1) := by decide +kernel
theorem dX8_dummies_15 : decode cX8_dummies 15 = .ok (.iaload, 1) := by decide +kernel
theorem dX8_dummies_16 : decode cX8_dummies 16 = .ok (.if_icmp .ge 39, 3) := by decide +kernel
theorem dX8_dummies_19 : decode cX8_dummies 19 = .ok (.iload_n 1, 1) := by decide +kernel
theorem dX8_dummies_20 : decode cX8_dummies 20 = .ok (.aload_n 0, 1) := by decide +kernel
theorem dX8_dummies_21 : decode cX8_dummies 21 = .ok (.aload_n 0, 1) := by decide +kernel
theorem dX8_dummies_22 : decode cX8_dummies 22 = .ok (.getfield 28, 3) := by decide +kernel
theorem dX8_dummies_25 : decode cX8_dummies 25 = .ok (.iload_n 2, 1) := by decide +kernel
theorem dX8_dummies_26 : decode cX8_dummies 26 = .ok (.invokevirtual 112, 3) := by decide +kernel
theorem dX8_dummies_29 : decode cX8_dummies 29 = .ok (.ifCond .eq 17, 3) := by decide +kernel
theorem dX8_dummies_32 : decode cX8_dummies 32 = .ok (.aload_n 0, 1) := by decide +kernel
theorem dX8_dummies_33 : decode cX8_dummies 33 = .ok (.iload_n 2, 1) := by decide +kernel
theorem dX8_dummies_34 : decode cX8_dummies 34 = .ok (.invokevirtual 163, 3) := by decide +kernel
theorem dX8_dummies_37 : decode cX8_dummies 37 = .ok (.ifCond .ne 9, 3) := by decide +kernel
theorem dX8_dummies_40 : decode cX8_dummies 40 = .ok (.iconst 1, 1) := by decide +kernel
theorem dX8_dummies_41 : decode cX8_dummies 41 = .ok (.iload_n 2, 1) := by decide +kernel
theorem dX8_dummies_42 : decode cX8_dummies 42 = .ok (.ishl, 1) := by decide +kernel
theorem dX8_dummies_43 : decode cX8_dummies 43 = .ok (.goto 4, 3) := by decide +kernel
theorem dX8_dummies_46 : decode cX8_dummies 46 = .ok (.iconst 0, 1) := by decide +kernel
theorem dX8_dummies_47 : decode cX8_dummies 47 = .ok (.ior, 1) := by decide +kernel
theorem dX8_dummies_48 : decode cX8_dummies 48 = .ok (.istore_n 1, 1) := by decide +kernel
theorem dX8_dummies_49 : decode cX8_dummies 49 = .ok (.iinc 2 1, 3) := by decide +kernel
theorem dX8_dummies_52 : decode cX8_dummies 52 = .ok (.goto (-43), 3) := by decide +kernel
theorem dX8_dummies_55 : decode cX8_dummies 55 = .ok (.iload_n 1, 1) := by decide +kernel
theorem dX8_dummies_56 : decode cX8_dummies 56 = .ok (.ireturn, 1) := by decide +kernel
set_option maxRecDepth 20000 in
theorem ggX8_swaysOf_X8_voices : GoodIn wsX8_swaysOf wsX8_voices := goodIn_r _ [7, 2, 8, 9, 10, 6, 11, 12, 27, 28, 29, 30, 31, 32, 33, 34, 35, 36, 37, 38, 39, 40, 41, 42, 43, 44, 45, 46, 47, 48, 49, 50] (by decide +kernel) (by decide +kernel)
set_option maxRecDepth 20000 in
theorem gX8_swaysOf_X8_voices : GoodIn wsX8_swaysOf (wsV RX8 119 RX8 yX8_voices wsX8_voices) := goodIn_app (goodIn_of _ (by decide +kernel)) ggX8_swaysOf_X8_voices
set_option maxRecDepth 20000 in
theorem ggX8_swaysOf_X8_saysYes : GoodIn wsX8_swaysOf wsX8_saysYes := goodIn_r _ [16, 2, 17, 27, 28, 29, 30, 31, 32, 33, 34, 35, 36, 37, 38, 39, 40, 41, 42, 43, 44, 45, 46, 47, 48, 49, 50] (by decide +kernel) (by decide +kernel)
set_option maxRecDepth 20000 in
theorem gX8_swaysOf_X8_saysYes : GoodIn wsX8_swaysOf (wsV RX8 123 RX8 yX8_saysYes wsX8_saysYes) := goodIn_app (goodIn_of _ (by decide +kernel)) ggX8_swaysOf_X8_saysYes
set_option maxRecDepth 20000 in
theorem ggX8_swaysOf_X8_passesBy : GoodIn wsX8_swaysOf wsX8_passesBy := goodIn_r _ [21, 22, 23, 24, 6, 25, 2, 26, 27, 28, 29, 30, 31, 32, 33, 34, 35, 36, 37, 38, 39, 40, 41, 42, 43, 44, 45, 46, 47, 48, 49, 50] (by decide +kernel) (by decide +kernel)
set_option maxRecDepth 20000 in
theorem gX8_swaysOf_X8_passesBy : GoodIn wsX8_swaysOf (wsV RX8 127 RX8 yX8_passesBy wsX8_passesBy) := goodIn_app (goodIn_of _ (by decide +kernel)) ggX8_swaysOf_X8_passesBy
theorem dX8_swaysOf_0 : decode cX8_swaysOf 0 = .ok (.aload_n 0, 1) := by decide +kernel
theorem dX8_swaysOf_1 : decode cX8_swaysOf 1 = .ok (.aload_n 0, 1) := by decide +kernel
theorem dX8_swaysOf_2 : decode cX8_swaysOf 2 = .ok (.getfield 28, 3) := by decide +kernel
theorem dX8_swaysOf_5 : decode cX8_swaysOf 5 = .ok (.invokevirtual 119, 3) := by decide +kernel
theorem dX8_swaysOf_8 : decode cX8_swaysOf 8 = .ok (.istore_n 2, 1) := by decide +kernel
theorem dX8_swaysOf_9 : decode cX8_swaysOf 9 = .ok (.aload_n 0, 1) := by decide +kernel
theorem dX8_swaysOf_10 : decode cX8_swaysOf 10 = .ok (.aload_n 0, 1) := by decide +kernel
theorem dX8_swaysOf_11 : decode cX8_swaysOf 11 = .ok (.getfield 28, 3) := by decide +kernel
theorem dX8_swaysOf_14 : decode cX8_swaysOf 14 = .ok (.iload_n 1, 1) := by decide +kernel
theorem dX8_swaysOf_15 : decode cX8_swaysOf 15 = .ok (.invokevirtual 123, 3) := by decide +kernel
theorem dX8_swaysOf_18 : decode cX8_swaysOf 18 = .ok (.istore_n 3, 1) := by decide +kernel
theorem dX8_swaysOf_19 : decode cX8_swaysOf 19 = .ok (.iconst 0, 1) := by decide +kernel
theorem dX8_swaysOf_20 : decode cX8_swaysOf 20 = .ok (.istore 4, 2) := by decide +kernel
theorem dX8_swaysOf_22 : decode cX8_swaysOf 22 = .ok (.iconst 0, 1) := by decide +kernel
theorem dX8_swaysOf_23 : decode cX8_swaysOf 23 = .ok (.istore 5, 2) := by decide +kernel
theorem dX8_swaysOf_25 : decode cX8_swaysOf 25 = .ok (.iload 5, 2) := by decide +kernel
theorem dX8_swaysOf_27 : decode cX8_swaysOf 27 = .ok (.aload_n 0, 1) := by decide +kernel
theorem dX8_swaysOf_28 : decode cX8_swaysOf 28 = .ok (.getfield 13, 3) := by decide +kernel
theorem dX8_swaysOf_31 : decode cX8_swaysOf 31 = .ok (.iconst 0, 1) := by decide +kernel
theorem dX8_swaysOf_32 : decode cX8_swaysOf 32 = .ok (.iaload, 1) := by decide +kernel
theorem dX8_swaysOf_33 : decode cX8_swaysOf 33 = .ok (.if_icmp .ge 66, 3) := by decide +kernel
theorem dX8_swaysOf_36 : decode cX8_swaysOf 36 = .ok (.iload_n 2, 1) := by decide +kernel
theorem dX8_swaysOf_37 : decode cX8_swaysOf 37 = .ok (.iload 5, 2) := by decide +kernel
theorem dX8_swaysOf_39 : decode cX8_swaysOf 39 = .ok (.ishr, 1) := by decide +kernel
theorem dX8_swaysOf_40 : decode cX8_swaysOf 40 = .ok (.iconst 1, 1) := by decide +kernel
theorem dX8_swaysOf_41 : decode cX8_swaysOf 41 = .ok (.iand, 1) := by decide +kernel
theorem dX8_swaysOf_42 : decode cX8_swaysOf 42 = .ok (.iconst 1, 1) := by decide +kernel
theorem dX8_swaysOf_43 : decode cX8_swaysOf 43 = .ok (.if_icmp .ne 29, 3) := by decide +kernel
theorem dX8_swaysOf_46 : decode cX8_swaysOf 46 = .ok (.aload_n 0, 1) := by decide +kernel
theorem dX8_swaysOf_47 : decode cX8_swaysOf 47 = .ok (.iload_n 2, 1) := by decide +kernel
theorem dX8_swaysOf_48 : decode cX8_swaysOf 48 = .ok (.iconst 1, 1) := by decide +kernel
theorem dX8_swaysOf_49 : decode cX8_swaysOf 49 = .ok (.iload 5, 2) := by decide +kernel
theorem dX8_swaysOf_51 : decode cX8_swaysOf 51 = .ok (.ishl, 1) := by decide +kernel
theorem dX8_swaysOf_52 : decode cX8_swaysOf 52 = .ok (.iconst (-1), 1) := by decide +kernel
theorem dX8_swaysOf_53 : decode cX8_swaysOf 53 = .ok (.ixor, 1) := by decide +kernel
theorem dX8_swaysOf_54 : decode cX8_swaysOf 54 = .ok (.iand, 1) := by decide +kernel
theorem dX8_swaysOf_55 : decode cX8_swaysOf 55 = .ok (.iload_n 3, 1) := by decide +kernel
theorem dX8_swaysOf_56 : decode cX8_swaysOf 56 = .ok (.invokevirtual 127, 3) := by decide +kernel
theorem dX8_swaysOf_59 : decode cX8_swaysOf 59 = .ok (.aload_n 0, 1) := by decide +kernel
theorem dX8_swaysOf_60 : decode cX8_swaysOf 60 = .ok (.iload_n 2, 1) := by decide +kernel
theorem dX8_swaysOf_61 : decode cX8_swaysOf 61 = .ok (.iload_n 3, 1) := by decide +kernel
theorem dX8_swaysOf_62 : decode cX8_swaysOf 62 = .ok (.invokevirtual 127, 3) := by decide +kernel
theorem dX8_swaysOf_65 : decode cX8_swaysOf 65 = .ok (.if_icmp .eq 7, 3) := by decide +kernel
theorem dX8_swaysOf_68 : decode cX8_swaysOf 68 = .ok (.iconst 1, 1) := by decide +kernel
theorem dX8_swaysOf_69 : decode cX8_swaysOf 69 = .ok (.goto 4, 3) := by decide +kernel
theorem dX8_swaysOf_72 : decode cX8_swaysOf 72 = .ok (.iconst 0, 1) := by decide +kernel
theorem dX8_swaysOf_73 : decode cX8_swaysOf 73 = .ok (.istore 6, 2) := by decide +kernel
theorem dX8_swaysOf_75 : decode cX8_swaysOf 75 = .ok (.iload 4, 2) := by decide +kernel
theorem dX8_swaysOf_77 : decode cX8_swaysOf 77 = .ok (.iload 6, 2) := by decide +kernel
theorem dX8_swaysOf_79 : decode cX8_swaysOf 79 = .ok (.ifCond .eq 10, 3) := by decide +kernel
theorem dX8_swaysOf_82 : decode cX8_swaysOf 82 = .ok (.iconst 1, 1) := by decide +kernel
theorem dX8_swaysOf_83 : decode cX8_swaysOf 83 = .ok (.iload 5, 2) := by decide +kernel
theorem dX8_swaysOf_85 : decode cX8_swaysOf 85 = .ok (.ishl, 1) := by decide +kernel
theorem dX8_swaysOf_86 : decode cX8_swaysOf 86 = .ok (.goto 4, 3) := by decide +kernel
theorem dX8_swaysOf_89 : decode cX8_swaysOf 89 = .ok (.iconst 0, 1) := by decide +kernel
theorem dX8_swaysOf_90 : decode cX8_swaysOf 90 = .ok (.ior, 1) := by decide +kernel
theorem dX8_swaysOf_91 : decode cX8_swaysOf 91 = .ok (.istore 4, 2) := by decide +kernel
theorem dX8_swaysOf_93 : decode cX8_swaysOf 93 = .ok (.iinc 5 1, 3) := by decide +kernel
theorem dX8_swaysOf_96 : decode cX8_swaysOf 96 = .ok (.goto (-71), 3) := by decide +kernel
theorem dX8_swaysOf_99 : decode cX8_swaysOf 99 = .ok (.iload 4, 2) := by decide +kernel
theorem dX8_swaysOf_101 : decode cX8_swaysOf 101 = .ok (.ireturn, 1) := by decide +kernel
set_option maxRecDepth 20000 in
theorem ggX8_sways_X8_isBill : GoodIn wsX8_sways wsX8_isBill := goodIn_r _ [5, 6, 7, 4, 8] (by decide +kernel) (by decide +kernel)
set_option maxRecDepth 20000 in
theorem gX8_sways_X8_isBill : GoodIn wsX8_sways (va_wsS RX8 141 yX8_isBill wsX8_isBill) := goodIn_app (goodIn_of _ (by decide +kernel)) ggX8_sways_X8_isBill
set_option maxRecDepth 20000 in
theorem ggX8_sways_X8_swaysOf : GoodIn wsX8_sways wsX8_swaysOf := goodIn_r _ [12, 13, 14, 15, 16, 17, 4, 18, 19, 20, 21, 22, 23, 24, 25, 26, 27, 28, 29, 30, 31, 32, 33, 34, 35, 36, 37, 38, 39, 40, 41, 42, 43, 44, 45, 46, 47, 48, 49, 50, 51, 52, 53, 54, 55, 56, 57, 58, 59, 60, 61] (by decide +kernel) (by decide +kernel)
set_option maxRecDepth 20000 in
theorem gX8_sways_X8_swaysOf : GoodIn wsX8_sways (wsV RX8 172 RX8 yX8_swaysOf wsX8_swaysOf) := goodIn_app (goodIn_of _ (by decide +kernel)) ggX8_sways_X8_swaysOf
theorem dX8_sways_0 : decode cX8_sways 0 = .ok (.aload_n 0, 1) := by decide +kernel
theorem dX8_sways_1 : decode cX8_sways 1 = .ok (.iconst 0, 1) := by decide +kernel
theorem dX8_sways_2 : decode cX8_sways 2 = .ok (.putfield 50, 3) := by decide +kernel
theorem dX8_sways_5 : decode cX8_sways 5 = .ok (.iload_n 1, 1) := by decide +kernel
theorem dX8_sways_6 : decode cX8_sways 6 = .ok (.invokestatic 141, 3) := by decide +kernel
theorem dX8_sways_9 : decode cX8_sways 9 = .ok (.ifCond .eq 11, 3) := by decide +kernel
theorem dX8_sways_12 : decode cX8_sways 12 = .ok (.aload_n 0, 1) := by decide +kernel
theorem dX8_sways_13 : decode cX8_sways 13 = .ok (.iload_n 1, 1) := by decide +kernel
theorem dX8_sways_14 : decode cX8_sways 14 = .ok (.invokevirtual 172, 3) := by decide +kernel
theorem dX8_sways_17 : decode cX8_sways 17 = .ok (.goto 4, 3) := by decide +kernel
theorem dX8_sways_20 : decode cX8_sways 20 = .ok (.iconst (-1), 1) := by decide +kernel
theorem dX8_sways_21 : decode cX8_sways 21 = .ok (.ireturn, 1) := by decide +kernel
set_option maxRecDepth 20000 in
theorem ggX8_free_X8_voices : GoodIn wsX8_free wsX8_voices := goodIn_r _ [7, 8, 9, 10, 11, 6, 12, 13, 32, 33, 34, 35, 36, 37, 38, 39, 40, 41, 42, 43, 44, 45, 46, 47, 48, 49, 50, 51, 52, 53, 54, 55] (by decide +kernel) (by decide +kernel)
set_option maxRecDepth 20000 in
theorem gX8_free_X8_voices : GoodIn wsX8_free (wsV RX8 119 RX8 yX8_voices wsX8_voices) := goodIn_app (goodIn_of _ (by decide +kernel)) ggX8_free_X8_voices
set_option maxRecDepth 20000 in
theorem ggX8_free_X8_swaysOf : GoodIn wsX8_free wsX8_swaysOf := goodIn_r _ [17, 2, 8, 3, 4, 5, 6, 7, 9, 10, 11, 12, 13, 18, 19, 20, 21, 22, 23, 24, 25, 26, 27, 28, 29, 30, 31, 32, 33, 34, 35, 36, 37, 38, 39, 40, 41, 42, 43, 44, 45, 46, 47, 48, 49, 50, 51, 52, 53, 54, 55] (by decide +kernel) (by decide +kernel)
set_option maxRecDepth 20000 in
theorem gX8_free_X8_swaysOf : GoodIn wsX8_free (wsV RX8 172 RX8 yX8_swaysOf wsX8_swaysOf) := goodIn_app (goodIn_of _ (by decide +kernel)) ggX8_free_X8_swaysOf
theorem dX8_free_0 : decode cX8_free 0 = .ok (.aload_n 0, 1) := by decide +kernel
theorem dX8_free_1 : decode cX8_free 1 = .ok (.iconst 0, 1) := by decide +kernel
theorem dX8_free_2 : decode cX8_free 2 = .ok (.putfield 50, 3) := by decide +kernel
theorem dX8_free_5 : decode cX8_free 5 = .ok (.aload_n 0, 1) := by decide +kernel
theorem dX8_free_6 : decode cX8_free 6 = .ok (.aload_n 0, 1) := by decide +kernel
theorem dX8_free_7 : decode cX8_free 7 = .ok (.getfield 28, 3) := by decide +kernel
theorem dX8_free_10 : decode cX8_free 10 = .ok (.invokevirtual 119, 3) := by decide +kernel
theorem dX8_free_13 : decode cX8_free 13 = .ok (.istore_n 1, 1) := by decide +kernel
theorem dX8_free_14 : decode cX8_free 14 = .ok (.iconst 0, 1) := by decide +kernel
theorem dX8_free_15 : decode cX8_free 15 = .ok (.istore_n 2, 1) := by decide +kernel
theorem dX8_free_16 : decode cX8_free 16 = .ok (.iload_n 2, 1) := by decide +kernel
theorem dX8_free_17 : decode cX8_free 17 = .ok (.iconst 5, 1) := by decide +kernel
theorem dX8_free_18 : decode cX8_free 18 = .ok (.if_icmp .ge 19, 3) := by decide +kernel
theorem dX8_free_21 : decode cX8_free 21 = .ok (.iload_n 1, 1) := by decide +kernel
theorem dX8_free_22 : decode cX8_free 22 = .ok (.aload_n 0, 1) := by decide +kernel
theorem dX8_free_23 : decode cX8_free 23 = .ok (.iload_n 2, 1) := by decide +kernel
theorem dX8_free_24 : decode cX8_free 24 = .ok (.invokevirtual 172, 3) := by decide +kernel
theorem dX8_free_27 : decode cX8_free 27 = .ok (.iconst (-1), 1) := by decide +kernel
theorem dX8_free_28 : decode cX8_free 28 = .ok (.ixor, 1) := by decide +kernel
theorem dX8_free_29 : decode cX8_free 29 = .ok (.iand, 1) := by decide +kernel
theorem dX8_free_30 : decode cX8_free 30 = .ok (.istore_n 1, 1) := by decide +kernel
theorem dX8_free_31 : decode cX8_free 31 = .ok (.iinc 2 1, 3) := by decide +kernel
theorem dX8_free_34 : decode cX8_free 34 = .ok (.goto (-18), 3) := by decide +kernel
theorem dX8_free_37 : decode cX8_free 37 = .ok (.iload_n 1, 1) := by decide +kernel
theorem dX8_free_38 : decode cX8_free 38 = .ok (.ireturn, 1) := by decide +kernel
set_option maxRecDepth 20000 in
theorem ggX8_turn_X8_isBill : GoodIn wsX8_turn wsX8_isBill := goodIn_r _ [6, 7, 8, 5, 9] (by decide +kernel) (by decide +kernel)
set_option maxRecDepth 20000 in
theorem gX8_turn_X8_isBill : GoodIn wsX8_turn (va_wsS RX8 141 yX8_isBill wsX8_isBill) := goodIn_app (goodIn_of _ (by decide +kernel)) ggX8_turn_X8_isBill
set_option maxRecDepth 20000 in
theorem ggX8_turn_X8_voices : GoodIn wsX8_turn wsX8_voices := goodIn_r _ [13, 14, 15, 16, 17, 5, 18, 19, 37, 38, 39, 40, 41, 42, 43, 44, 45, 46, 47, 48, 49, 50, 51, 52, 53, 54, 55, 56, 57, 58, 59, 60] (by decide +kernel) (by decide +kernel)
set_option maxRecDepth 20000 in
theorem gX8_turn_X8_voices : GoodIn wsX8_turn (wsV RX8 119 RX8 yX8_voices wsX8_voices) := goodIn_app (goodIn_of _ (by decide +kernel)) ggX8_turn_X8_voices
set_option maxRecDepth 20000 in
theorem ggX8_turn_X8_ones : GoodIn wsX8_turn wsX8_ones := goodIn_r _ [22] (by decide +kernel) (by decide +kernel)
set_option maxRecDepth 20000 in
theorem gX8_turn_X8_ones : GoodIn wsX8_turn (va_wsS RX8 154 yX8_ones wsX8_ones) := goodIn_app (goodIn_of _ (by decide +kernel)) ggX8_turn_X8_ones
set_option maxRecDepth 20000 in
theorem ggX8_turn_X8_saysYes : GoodIn wsX8_turn wsX8_saysYes := goodIn_r _ [26, 14, 27, 37, 38, 39, 40, 41, 42, 43, 44, 45, 46, 47, 48, 49, 50, 51, 52, 53, 54, 55, 56, 57, 58, 59, 60] (by decide +kernel) (by decide +kernel)
set_option maxRecDepth 20000 in
theorem gX8_turn_X8_saysYes : GoodIn wsX8_turn (wsV RX8 123 RX8 yX8_saysYes wsX8_saysYes) := goodIn_app (goodIn_of _ (by decide +kernel)) ggX8_turn_X8_saysYes
set_option maxRecDepth 20000 in
theorem ggX8_turn_X8_passesBy : GoodIn wsX8_turn wsX8_passesBy := goodIn_r _ [31, 32, 33, 34, 5, 35, 14, 36, 37, 38, 39, 40, 41, 42, 43, 44, 45, 46, 47, 48, 49, 50, 51, 52, 53, 54, 55, 56, 57, 58, 59, 60] (by decide +kernel) (by decide +kernel)
set_option maxRecDepth 20000 in
theorem gX8_turn_X8_passesBy : GoodIn wsX8_turn (wsV RX8 127 RX8 yX8_passesBy wsX8_passesBy) := goodIn_app (goodIn_of _ (by decide +kernel)) ggX8_turn_X8_passesBy
theorem dX8_turn_0 : decode cX8_turn 0 = .ok (.aload_n 0, 1) := by decide +kernel
theorem dX8_turn_1 : decode cX8_turn 1 = .ok (.iconst 0, 1) := by decide +kernel
theorem dX8_turn_2 : decode cX8_turn 2 = .ok (.putfield 50, 3) := by decide +kernel
theorem dX8_turn_5 : decode cX8_turn 5 = .ok (.iload_n 1, 1) := by decide +kernel
theorem dX8_turn_6 : decode cX8_turn 6 = .ok (.invokestatic 141, 3) := by decide +kernel
theorem dX8_turn_9 : decode cX8_turn 9 = .ok (.ifCond .ne 5, 3) := by decide +kernel
theorem dX8_turn_12 : decode cX8_turn 12 = .ok (.iconst (-1), 1) := by decide +kernel
theorem dX8_turn_13 : decode cX8_turn 13 = .ok (.ireturn, 1) := by decide +kernel
theorem dX8_turn_14 : decode cX8_turn 14 = .ok (.aload_n 0, 1) := by decide +kernel
theorem dX8_turn_15 : decode cX8_turn 15 = .ok (.aload_n 0, 1) := by decide +kernel
theorem dX8_turn_16 : decode cX8_turn 16 = .ok (.getfield 28, 3) := by decide +kernel
theorem dX8_turn_19 : decode cX8_turn 19 = .ok (.invokevirtual 119, 3) := by decide +kernel
theorem dX8_turn_22 : decode cX8_turn 22 = .ok (.istore_n 2, 1) := by decide +kernel
theorem dX8_turn_23 : decode cX8_turn 23 = .ok (.bipush (-9), 2) := by decide +kernel
theorem dX8_turn_25 : decode cX8_turn 25 = .ok (.istore_n 3, 1) := by decide +kernel
theorem dX8_turn_26 : decode cX8_turn 26 = .ok (.iconst 0, 1) := by decide +kernel
theorem dX8_turn_27 : decode cX8_turn 27 = .ok (.istore 4, 2) := by decide +kernel
theorem dX8_turn_29 : decode cX8_turn 29 = .ok (.iload 4, 2) := by decide +kernel
theorem dX8_turn_31 : decode cX8_turn 31 = .ok (.sipush 128, 3) := by decide +kernel
theorem dX8_turn_34 : decode cX8_turn 34 = .ok (.if_icmp .ge 75, 3) := by decide +kernel
theorem dX8_turn_37 : decode cX8_turn 37 = .ok (.iload 4, 2) := by decide +kernel
theorem dX8_turn_39 : decode cX8_turn 39 = .ok (.iload_n 2, 1) := by decide +kernel
theorem dX8_turn_40 : decode cX8_turn 40 = .ok (.iconst (-1), 1) := by decide +kernel
theorem dX8_turn_41 : decode cX8_turn 41 = .ok (.ixor, 1) := by decide +kernel
theorem dX8_turn_42 : decode cX8_turn 42 = .ok (.iand, 1) := by decide +kernel
theorem dX8_turn_43 : decode cX8_turn 43 = .ok (.ifCond .ne 25, 3) := by decide +kernel
theorem dX8_turn_46 : decode cX8_turn 46 = .ok (.iload_n 3, 1) := by decide +kernel
theorem dX8_turn_47 : decode cX8_turn 47 = .ok (.bipush (-9), 2) := by decide +kernel
theorem dX8_turn_49 : decode cX8_turn 49 = .ok (.if_icmp .eq 15, 3) := by decide +kernel
theorem dX8_turn_52 : decode cX8_turn 52 = .ok (.iload 4, 2) := by decide +kernel
theorem dX8_turn_54 : decode cX8_turn 54 = .ok (.invokestatic 154, 3) := by decide +kernel
theorem dX8_turn_57 : decode cX8_turn 57 = .ok (.iload_n 3, 1) := by decide +kernel
theorem dX8_turn_58 : decode cX8_turn 58 = .ok (.invokestatic 154, 3) := by decide +kernel
theorem dX8_turn_61 : decode cX8_turn 61 = .ok (.if_icmp .ge 7, 3) := by decide +kernel
theorem dX8_turn_64 : decode cX8_turn 64 = .ok (.iconst 1, 1) := by decide +kernel
theorem dX8_turn_65 : decode cX8_turn 65 = .ok (.goto 4, 3) := by decide +kernel
theorem dX8_turn_68 : decode cX8_turn 68 = .ok (.iconst 0, 1) := by decide +kernel
theorem dX8_turn_69 : decode cX8_turn 69 = .ok (.istore 5, 2) := by decide +kernel
theorem dX8_turn_71 : decode cX8_turn 71 = .ok (.iload 5, 2) := by decide +kernel
theorem dX8_turn_73 : decode cX8_turn 73 = .ok (.ifCond .eq 28, 3) := by decide +kernel
theorem dX8_turn_76 : decode cX8_turn 76 = .ok (.aload_n 0, 1) := by decide +kernel
theorem dX8_turn_77 : decode cX8_turn 77 = .ok (.iload_n 2, 1) := by decide +kernel
theorem dX8_turn_78 : decode cX8_turn 78 = .ok (.aload_n 0, 1) := by decide +kernel
theorem dX8_turn_79 : decode cX8_turn 79 = .ok (.aload_n 0, 1) := by decide +kernel
theorem dX8_turn_80 : decode cX8_turn 80 = .ok (.getfield 28, 3) := by decide +kernel
theorem dX8_turn_83 : decode cX8_turn 83 = .ok (.iload_n 1, 1) := by decide +kernel
theorem dX8_turn_84 : decode cX8_turn 84 = .ok (.invokevirtual 123, 3) := by decide +kernel
theorem dX8_turn_87 : decode cX8_turn 87 = .ok (.iload 4, 2) := by decide +kernel
theorem dX8_turn_89 : decode cX8_turn 89 = .ok (.ixor, 1) := by decide +kernel
theorem dX8_turn_90 : decode cX8_turn 90 = .ok (.invokevirtual 127, 3) := by decide +kernel
theorem dX8_turn_93 : decode cX8_turn 93 = .ok (.ifCond .eq 8, 3) := by decide +kernel
theorem dX8_turn_96 : decode cX8_turn 96 = .ok (.iload 4, 2) := by decide +kernel
theorem dX8_turn_98 : decode cX8_turn 98 = .ok (.goto 4, 3) := by decide +kernel
theorem dX8_turn_101 : decode cX8_turn 101 = .ok (.iload_n 3, 1) := by decide +kernel
theorem dX8_turn_102 : decode cX8_turn 102 = .ok (.istore_n 3, 1) := by decide +kernel
theorem dX8_turn_103 : decode cX8_turn 103 = .ok (.iinc 4 1, 3) := by decide +kernel
theorem dX8_turn_106 : decode cX8_turn 106 = .ok (.goto (-77), 3) := by decide +kernel
theorem dX8_turn_109 : decode cX8_turn 109 = .ok (.iload_n 3, 1) := by decide +kernel
theorem dX8_turn_110 : decode cX8_turn 110 = .ok (.ireturn, 1) := by decide +kernel
theorem dX8_asNow_0 : decode cX8_asNow 0 = .ok (.iconst 0, 1) := by decide +kernel
theorem dX8_asNow_1 : decode cX8_asNow 1 = .ok (.istore_n 1, 1) := by decide +kernel
theorem dX8_asNow_2 : decode cX8_asNow 2 = .ok (.iload_n 1, 1) := by decide +kernel
theorem dX8_asNow_3 : decode cX8_asNow 3 = .ok (.bipush 19, 2) := by decide +kernel
theorem dX8_asNow_5 : decode cX8_asNow 5 = .ok (.if_icmp .ge 21, 3) := by decide +kernel
theorem dX8_asNow_8 : decode cX8_asNow 8 = .ok (.aload_n 0, 1) := by decide +kernel
theorem dX8_asNow_9 : decode cX8_asNow 9 = .ok (.getfield 31, 3) := by decide +kernel
theorem dX8_asNow_12 : decode cX8_asNow 12 = .ok (.iload_n 1, 1) := by decide +kernel
theorem dX8_asNow_13 : decode cX8_asNow 13 = .ok (.aload_n 0, 1) := by decide +kernel
theorem dX8_asNow_14 : decode cX8_asNow 14 = .ok (.getfield 28, 3) := by decide +kernel
theorem dX8_asNow_17 : decode cX8_asNow 17 = .ok (.iload_n 1, 1) := by decide +kernel
theorem dX8_asNow_18 : decode cX8_asNow 18 = .ok (.iaload, 1) := by decide +kernel
theorem dX8_asNow_19 : decode cX8_asNow 19 = .ok (.iastore, 1) := by decide +kernel
theorem dX8_asNow_20 : decode cX8_asNow 20 = .ok (.iinc 1 1, 3) := by decide +kernel
theorem dX8_asNow_23 : decode cX8_asNow 23 = .ok (.goto (-21), 3) := by decide +kernel
theorem dX8_asNow_26 : decode cX8_asNow 26 = .ok (.return_, 1) := by decide +kernel
set_option maxRecDepth 20000 in
theorem ggX8_hand_X8_isBill : GoodIn wsX8_hand wsX8_isBill := goodIn_r _ [8, 9, 10, 7, 11] (by decide +kernel) (by decide +kernel)
set_option maxRecDepth 20000 in
theorem gX8_hand_X8_isBill : GoodIn wsX8_hand (va_wsS RX8 141 yX8_isBill wsX8_isBill) := goodIn_app (goodIn_of _ (by decide +kernel)) ggX8_hand_X8_isBill
set_option maxRecDepth 20000 in
theorem ggX8_hand_X8_heldBy : GoodIn wsX8_hand wsX8_heldBy := goodIn_r _ [15, 2, 3, 50, 51, 52, 53, 54, 55, 56, 57, 58, 59, 60, 61, 62, 63, 64, 65, 66, 67, 68, 69, 70, 71, 72, 73] (by decide +kernel) (by decide +kernel)
set_option maxRecDepth 20000 in
theorem gX8_hand_X8_heldBy : GoodIn wsX8_hand (wsV RX8 138 RX8 yX8_heldBy wsX8_heldBy) := goodIn_app (goodIn_of _ (by decide +kernel)) ggX8_hand_X8_heldBy
set_option maxRecDepth 20000 in
theorem ggX8_hand_X8_ones : GoodIn wsX8_hand wsX8_ones := goodIn_r _ [18] (by decide +kernel) (by decide +kernel)
set_option maxRecDepth 20000 in
theorem gX8_hand_X8_ones : GoodIn wsX8_hand (va_wsS RX8 154 yX8_ones wsX8_ones) := goodIn_app (goodIn_of _ (by decide +kernel)) ggX8_hand_X8_ones
set_option maxRecDepth 20000 in
theorem ggX8_hand_X8_asNow : GoodIn wsX8_hand wsX8_asNow := goodIn_r _ [22, 4, 3, 50, 51, 52, 53, 54, 55, 56, 57, 58, 59, 60, 61, 62, 63, 64, 65, 66, 67, 68, 69, 70, 71, 72, 73] (by decide +kernel) (by decide +kernel)
set_option maxRecDepth 20000 in
theorem gX8_hand_X8_asNow : GoodIn wsX8_hand (wsV RX8 175 RX8 yX8_asNow wsX8_asNow) := goodIn_app (goodIn_of _ (by decide +kernel)) ggX8_hand_X8_asNow
set_option maxRecDepth 20000 in
theorem ggX8_hand_X8_passes : GoodIn wsX8_hand wsX8_passes := goodIn_r _ [26, 27, 28, 29, 7, 30, 2, 31, 32, 33, 34, 35, 36, 37, 38, 39, 40, 41, 42, 43, 44, 45, 46, 47, 48, 49, 50, 51, 52, 53, 54, 55, 56, 57, 58, 59, 60, 61, 62, 63, 64, 65, 66, 67, 68, 69, 70, 71, 72, 73] (by decide +kernel) (by decide +kernel)
set_option maxRecDepth 20000 in
theorem gX8_hand_X8_passes : GoodIn wsX8_hand (wsV RX8 144 RX8 yX8_passes wsX8_passes) := goodIn_app (goodIn_of _ (by decide +kernel)) ggX8_hand_X8_passes
theorem dX8_hand_0 : decode cX8_hand 0 = .ok (.aload_n 0, 1) := by decide +kernel
theorem dX8_hand_1 : decode cX8_hand 1 = .ok (.iconst 0, 1) := by decide +kernel
theorem dX8_hand_2 : decode cX8_hand 2 = .ok (.putfield 50, 3) := by decide +kernel
theorem dX8_hand_5 : decode cX8_hand 5 = .ok (.iload_n 1, 1) := by decide +kernel
theorem dX8_hand_6 : decode cX8_hand 6 = .ok (.invokestatic 141, 3) := by decide +kernel
theorem dX8_hand_9 : decode cX8_hand 9 = .ok (.ifCond .ne 5, 3) := by decide +kernel
theorem dX8_hand_12 : decode cX8_hand 12 = .ok (.iconst (-1), 1) := by decide +kernel
theorem dX8_hand_13 : decode cX8_hand 13 = .ok (.ireturn, 1) := by decide +kernel
theorem dX8_hand_14 : decode cX8_hand 14 = .ok (.bipush (-9), 2) := by decide +kernel
theorem dX8_hand_16 : decode cX8_hand 16 = .ok (.istore_n 2, 1) := by decide +kernel
theorem dX8_hand_17 : decode cX8_hand 17 = .ok (.iconst 0, 1) := by decide +kernel
theorem dX8_hand_18 : decode cX8_hand 18 = .ok (.istore_n 3, 1) := by decide +kernel
theorem dX8_hand_19 : decode cX8_hand 19 = .ok (.iconst 0, 1) := by decide +kernel
theorem dX8_hand_20 : decode cX8_hand 20 = .ok (.istore 4, 2) := by decide +kernel
theorem dX8_hand_22 : decode cX8_hand 22 = .ok (.iload 4, 2) := by decide +kernel
theorem dX8_hand_24 : decode cX8_hand 24 = .ok (.aload_n 0, 1) := by decide +kernel
theorem dX8_hand_25 : decode cX8_hand 25 = .ok (.getfield 13, 3) := by decide +kernel
theorem dX8_hand_28 : decode cX8_hand 28 = .ok (.iconst 1, 1) := by decide +kernel
theorem dX8_hand_29 : decode cX8_hand 29 = .ok (.iaload, 1) := by decide +kernel
theorem dX8_hand_30 : decode cX8_hand 30 = .ok (.if_icmp .ge 62, 3) := by decide +kernel
theorem dX8_hand_33 : decode cX8_hand 33 = .ok (.aload_n 0, 1) := by decide +kernel
theorem dX8_hand_34 : decode cX8_hand 34 = .ok (.getfield 28, 3) := by decide +kernel
theorem dX8_hand_37 : decode cX8_hand 37 = .ok (.bipush 16, 2) := by decide +kernel
theorem dX8_hand_39 : decode cX8_hand 39 = .ok (.iaload, 1) := by decide +kernel
theorem dX8_hand_40 : decode cX8_hand 40 = .ok (.iload 4, 2) := by decide +kernel
theorem dX8_hand_42 : decode cX8_hand 42 = .ok (.ishr, 1) := by decide +kernel
theorem dX8_hand_43 : decode cX8_hand 43 = .ok (.iconst 1, 1) := by decide +kernel
theorem dX8_hand_44 : decode cX8_hand 44 = .ok (.iand, 1) := by decide +kernel
theorem dX8_hand_45 : decode cX8_hand 45 = .ok (.iconst 1, 1) := by decide +kernel
theorem dX8_hand_46 : decode cX8_hand 46 = .ok (.if_icmp .ne 7, 3) := by decide +kernel
theorem dX8_hand_49 : decode cX8_hand 49 = .ok (.iconst 1, 1) := by decide +kernel
theorem dX8_hand_50 : decode cX8_hand 50 = .ok (.goto 4, 3) := by decide +kernel
theorem dX8_hand_53 : decode cX8_hand 53 = .ok (.iconst 0, 1) := by decide +kernel
theorem dX8_hand_54 : decode cX8_hand 54 = .ok (.istore 5, 2) := by decide +kernel
theorem dX8_hand_56 : decode cX8_hand 56 = .ok (.iload 5, 2) := by decide +kernel
theorem dX8_hand_58 : decode cX8_hand 58 = .ok (.ifCond .eq 7, 3) := by decide +kernel
theorem dX8_hand_61 : decode cX8_hand 61 = .ok (.iload_n 2, 1) := by decide +kernel
theorem dX8_hand_62 : decode cX8_hand 62 = .ok (.goto 5, 3) := by decide +kernel
theorem dX8_hand_65 : decode cX8_hand 65 = .ok (.iload 4, 2) := by decide +kernel
theorem dX8_hand_67 : decode cX8_hand 67 = .ok (.istore_n 2, 1) := by decide +kernel
theorem dX8_hand_68 : decode cX8_hand 68 = .ok (.iload_n 3, 1) := by decide +kernel
theorem dX8_hand_69 : decode cX8_hand 69 = .ok (.iload 5, 2) := by decide +kernel
theorem dX8_hand_71 : decode cX8_hand 71 = .ok (.ifCond .eq 12, 3) := by decide +kernel
theorem dX8_hand_74 : decode cX8_hand 74 = .ok (.aload_n 0, 1) := by decide +kernel
theorem dX8_hand_75 : decode cX8_hand 75 = .ok (.iload 4, 2) := by decide +kernel
theorem dX8_hand_77 : decode cX8_hand 77 = .ok (.invokevirtual 138, 3) := by decide +kernel
theorem dX8_hand_80 : decode cX8_hand 80 = .ok (.goto 4, 3) := by decide +kernel
theorem dX8_hand_83 : decode cX8_hand 83 = .ok (.iconst 0, 1) := by decide +kernel
theorem dX8_hand_84 : decode cX8_hand 84 = .ok (.ior, 1) := by decide +kernel
theorem dX8_hand_85 : decode cX8_hand 85 = .ok (.istore_n 3, 1) := by decide +kernel
theorem dX8_hand_86 : decode cX8_hand 86 = .ok (.iinc 4 1, 3) := by decide +kernel
theorem dX8_hand_89 : decode cX8_hand 89 = .ok (.goto (-67), 3) := by decide +kernel
theorem dX8_hand_92 : decode cX8_hand 92 = .ok (.bipush (-9), 2) := by decide +kernel
theorem dX8_hand_94 : decode cX8_hand 94 = .ok (.istore 4, 2) := by decide +kernel
theorem dX8_hand_96 : decode cX8_hand 96 = .ok (.iconst 0, 1) := by decide +kernel
theorem dX8_hand_97 : decode cX8_hand 97 = .ok (.istore 5, 2) := by decide +kernel
theorem dX8_hand_99 : decode cX8_hand 99 = .ok (.iload 5, 2) := by decide +kernel
theorem dX8_hand_101 : decode cX8_hand 101 = .ok (.sipush 128, 3) := by decide +kernel
theorem dX8_hand_104 : decode cX8_hand 104 = .ok (.if_icmp .ge 144, 3) := by decide +kernel
theorem dX8_hand_107 : decode cX8_hand 107 = .ok (.iload 5, 2) := by decide +kernel
theorem dX8_hand_109 : decode cX8_hand 109 = .ok (.iload_n 3, 1) := by decide +kernel
theorem dX8_hand_110 : decode cX8_hand 110 = .ok (.iconst (-1), 1) := by decide +kernel
theorem dX8_hand_111 : decode cX8_hand 111 = .ok (.ixor, 1) := by decide +kernel
theorem dX8_hand_112 : decode cX8_hand 112 = .ok (.iand, 1) := by decide +kernel
theorem dX8_hand_113 : decode cX8_hand 113 = .ok (.ifCond .ne 38, 3) := by decide +kernel
theorem dX8_hand_116 : decode cX8_hand 116 = .ok (.iload 5, 2) := by decide +kernel
theorem dX8_hand_118 : decode cX8_hand 118 = .ok (.ifCond .eq 9, 3) := by decide +kernel
theorem dX8_hand_121 : decode cX8_hand 121 = .ok (.iload_n 2, 1) := by decide +kernel
theorem dX8_hand_122 : decode cX8_hand 122 = .ok (.bipush (-9), 2) := by decide +kernel
theorem dX8_hand_124 : decode cX8_hand 124 = .ok (.if_icmp .eq 27, 3) := by decide +kernel
theorem dX8_hand_127 : decode cX8_hand 127 = .ok (.iload 4, 2) := by decide +kernel
theorem dX8_hand_129 : decode cX8_hand 129 = .ok (.bipush (-9), 2) := by decide +kernel
theorem dX8_hand_131 : decode cX8_hand 131 = .ok (.if_icmp .eq 16, 3) := by decide +kernel
theorem dX8_hand_134 : decode cX8_hand 134 = .ok (.iload 5, 2) := by decide +kernel
theorem dX8_hand_136 : decode cX8_hand 136 = .ok (.invokestatic 154, 3) := by decide +kernel
theorem dX8_hand_139 : decode cX8_hand 139 = .ok (.iload 4, 2) := by decide +kernel
theorem dX8_hand_141 : decode cX8_hand 141 = .ok (.invokestatic 154, 3) := by decide +kernel
theorem dX8_hand_144 : decode cX8_hand 144 = .ok (.if_icmp .ge 7, 3) := by decide +kernel
theorem dX8_hand_147 : decode cX8_hand 147 = .ok (.iconst 1, 1) := by decide +kernel
theorem dX8_hand_148 : decode cX8_hand 148 = .ok (.goto 4, 3) := by decide +kernel
theorem dX8_hand_151 : decode cX8_hand 151 = .ok (.iconst 0, 1) := by decide +kernel
theorem dX8_hand_152 : decode cX8_hand 152 = .ok (.istore 6, 2) := by decide +kernel
theorem dX8_hand_154 : decode cX8_hand 154 = .ok (.aload_n 0, 1) := by decide +kernel
theorem dX8_hand_155 : decode cX8_hand 155 = .ok (.invokevirtual 175, 3) := by decide +kernel
theorem dX8_hand_158 : decode cX8_hand 158 = .ok (.iconst 0, 1) := by decide +kernel
theorem dX8_hand_159 : decode cX8_hand 159 = .ok (.istore 7, 2) := by decide +kernel
theorem dX8_hand_161 : decode cX8_hand 161 = .ok (.iload 7, 2) := by decide +kernel
theorem dX8_hand_163 : decode cX8_hand 163 = .ok (.aload_n 0, 1) := by decide +kernel
theorem dX8_hand_164 : decode cX8_hand 164 = .ok (.getfield 13, 3) := by decide +kernel
theorem dX8_hand_167 : decode cX8_hand 167 = .ok (.iconst 0, 1) := by decide +kernel
theorem dX8_hand_168 : decode cX8_hand 168 = .ok (.iaload, 1) := by decide +kernel
theorem dX8_hand_169 : decode cX8_hand 169 = .ok (.if_icmp .ge 47, 3) := by decide +kernel
theorem dX8_hand_172 : decode cX8_hand 172 = .ok (.aload_n 0, 1) := by decide +kernel
theorem dX8_hand_173 : decode cX8_hand 173 = .ok (.getfield 31, 3) := by decide +kernel
theorem dX8_hand_176 : decode cX8_hand 176 = .ok (.iconst 0, 1) := by decide +kernel
theorem dX8_hand_177 : decode cX8_hand 177 = .ok (.iload 7, 2) := by decide +kernel
theorem dX8_hand_179 : decode cX8_hand 179 = .ok (.iadd, 1) := by decide +kernel
theorem dX8_hand_180 : decode cX8_hand 180 = .ok (.iload 5, 2) := by decide +kernel
theorem dX8_hand_182 : decode cX8_hand 182 = .ok (.iload 7, 2) := by decide +kernel
theorem dX8_hand_184 : decode cX8_hand 184 = .ok (.ishr, 1) := by decide +kernel
theorem dX8_hand_185 : decode cX8_hand 185 = .ok (.iconst 1, 1) := by decide +kernel
theorem dX8_hand_186 : decode cX8_hand 186 = .ok (.iand, 1) := by decide +kernel
theorem dX8_hand_187 : decode cX8_hand 187 = .ok (.iconst 1, 1) := by decide +kernel
theorem dX8_hand_188 : decode cX8_hand 188 = .ok (.if_icmp .ne 12, 3) := by decide +kernel
theorem dX8_hand_191 : decode cX8_hand 191 = .ok (.iload 6, 2) := by decide +kernel
theorem dX8_hand_193 : decode cX8_hand 193 = .ok (.ifCond .eq 7, 3) := by decide +kernel
theorem dX8_hand_196 : decode cX8_hand 196 = .ok (.iload_n 2, 1) := by decide +kernel
theorem dX8_hand_197 : decode cX8_hand 197 = .ok (.goto 12, 3) := by decide +kernel
theorem dX8_hand_200 : decode cX8_hand 200 = .ok (.aload_n 0, 1) := by decide +kernel
theorem dX8_hand_201 : decode cX8_hand 201 = .ok (.getfield 28, 3) := by decide +kernel
theorem dX8_hand_204 : decode cX8_hand 204 = .ok (.iconst 0, 1) := by decide +kernel
theorem dX8_hand_205 : decode cX8_hand 205 = .ok (.iload 7, 2) := by decide +kernel
theorem dX8_hand_207 : decode cX8_hand 207 = .ok (.iadd, 1) := by decide +kernel
theorem dX8_hand_208 : decode cX8_hand 208 = .ok (.iaload, 1) := by decide +kernel
theorem dX8_hand_209 : decode cX8_hand 209 = .ok (.iastore, 1) := by decide +kernel
theorem dX8_hand_210 : decode cX8_hand 210 = .ok (.iinc 7 1, 3) := by decide +kernel
theorem dX8_hand_213 : decode cX8_hand 213 = .ok (.goto (-52), 3) := by decide +kernel
theorem dX8_hand_216 : decode cX8_hand 216 = .ok (.iload 6, 2) := by decide +kernel
theorem dX8_hand_218 : decode cX8_hand 218 = .ok (.ifCond .eq 20, 3) := by decide +kernel
theorem dX8_hand_221 : decode cX8_hand 221 = .ok (.aload_n 0, 1) := by decide +kernel
theorem dX8_hand_222 : decode cX8_hand 222 = .ok (.aload_n 0, 1) := by decide +kernel
theorem dX8_hand_223 : decode cX8_hand 223 = .ok (.getfield 31, 3) := by decide +kernel
theorem dX8_hand_226 : decode cX8_hand 226 = .ok (.iload_n 1, 1) := by decide +kernel
theorem dX8_hand_227 : decode cX8_hand 227 = .ok (.invokevirtual 144, 3) := by decide +kernel
theorem dX8_hand_230 : decode cX8_hand 230 = .ok (.ifCond .eq 8, 3) := by decide +kernel
theorem dX8_hand_233 : decode cX8_hand 233 = .ok (.iload 5, 2) := by decide +kernel
theorem dX8_hand_235 : decode cX8_hand 235 = .ok (.goto 5, 3) := by decide +kernel
theorem dX8_hand_238 : decode cX8_hand 238 = .ok (.iload 4, 2) := by decide +kernel
theorem dX8_hand_240 : decode cX8_hand 240 = .ok (.istore 4, 2) := by decide +kernel
theorem dX8_hand_242 : decode cX8_hand 242 = .ok (.iinc 5 1, 3) := by decide +kernel
theorem dX8_hand_245 : decode cX8_hand 245 = .ok (.goto (-146), 3) := by decide +kernel
theorem dX8_hand_248 : decode cX8_hand 248 = .ok (.iload 4, 2) := by decide +kernel
theorem dX8_hand_250 : decode cX8_hand 250 = .ok (.ireturn, 1) := by decide +kernel
set_option maxRecDepth 20000 in
theorem ggX8_swaps_X8_isBill : GoodIn wsX8_swaps wsX8_isBill := goodIn_r _ [8, 9, 10, 7, 11] (by decide +kernel) (by decide +kernel)
set_option maxRecDepth 20000 in
theorem gX8_swaps_X8_isBill : GoodIn wsX8_swaps (va_wsS RX8 141 yX8_isBill wsX8_isBill) := goodIn_app (goodIn_of _ (by decide +kernel)) ggX8_swaps_X8_isBill
set_option maxRecDepth 20000 in
theorem ggX8_swaps_X8_asNow : GoodIn wsX8_swaps wsX8_asNow := goodIn_r _ [15, 3, 4, 43, 44, 45, 46, 47, 48, 49, 50, 51, 52, 53, 54, 55, 56, 57, 58, 59, 60, 61, 62, 63, 64, 65, 66] (by decide +kernel) (by decide +kernel)
set_option maxRecDepth 20000 in
theorem gX8_swaps_X8_asNow : GoodIn wsX8_swaps (wsV RX8 175 RX8 yX8_asNow wsX8_asNow) := goodIn_app (goodIn_of _ (by decide +kernel)) ggX8_swaps_X8_asNow
set_option maxRecDepth 20000 in
theorem ggX8_swaps_X8_passes : GoodIn wsX8_swaps wsX8_passes := goodIn_r _ [19, 20, 21, 22, 7, 23, 2, 24, 25, 26, 27, 28, 29, 30, 31, 32, 33, 34, 35, 36, 37, 38, 39, 40, 41, 42, 43, 44, 45, 46, 47, 48, 49, 50, 51, 52, 53, 54, 55, 56, 57, 58, 59, 60, 61, 62, 63, 64, 65, 66] (by decide +kernel) (by decide +kernel)
set_option maxRecDepth 20000 in
theorem gX8_swaps_X8_passes : GoodIn wsX8_swaps (wsV RX8 144 RX8 yX8_passes wsX8_passes) := goodIn_app (goodIn_of _ (by decide +kernel)) ggX8_swaps_X8_passes
theorem dX8_swaps_0 : decode cX8_swaps 0 = .ok (.aload_n 0, 1) := by decide +kernel
theorem dX8_swaps_1 : decode cX8_swaps 1 = .ok (.iconst 0, 1) := by decide +kernel
theorem dX8_swaps_2 : decode cX8_swaps 2 = .ok (.putfield 50, 3) := by decide +kernel
theorem dX8_swaps_5 : decode cX8_swaps 5 = .ok (.iload_n 1, 1) := by decide +kernel
theorem dX8_swaps_6 : decode cX8_swaps 6 = .ok (.invokestatic 141, 3) := by decide +kernel
theorem dX8_swaps_9 : decode cX8_swaps 9 = .ok (.ifCond .ne 5, 3) := by decide +kernel
theorem dX8_swaps_12 : decode cX8_swaps 12 = .ok (.iconst (-1), 1) := by decide +kernel
theorem dX8_swaps_13 : decode cX8_swaps 13 = .ok (.ireturn, 1) := by decide +kernel
theorem dX8_swaps_14 : decode cX8_swaps 14 = .ok (.iconst 0, 1) := by decide +kernel
theorem dX8_swaps_15 : decode cX8_swaps 15 = .ok (.istore_n 2, 1) := by decide +kernel
theorem dX8_swaps_16 : decode cX8_swaps 16 = .ok (.iconst 0, 1) := by decide +kernel
theorem dX8_swaps_17 : decode cX8_swaps 17 = .ok (.istore_n 3, 1) := by decide +kernel
theorem dX8_swaps_18 : decode cX8_swaps 18 = .ok (.iload_n 3, 1) := by decide +kernel
theorem dX8_swaps_19 : decode cX8_swaps 19 = .ok (.aload_n 0, 1) := by decide +kernel
theorem dX8_swaps_20 : decode cX8_swaps 20 = .ok (.getfield 13, 3) := by decide +kernel
theorem dX8_swaps_23 : decode cX8_swaps 23 = .ok (.iconst 0, 1) := by decide +kernel
theorem dX8_swaps_24 : decode cX8_swaps 24 = .ok (.iaload, 1) := by decide +kernel
theorem dX8_swaps_25 : decode cX8_swaps 25 = .ok (.if_icmp .ge 111, 3) := by decide +kernel
theorem dX8_swaps_28 : decode cX8_swaps 28 = .ok (.iconst 0, 1) := by decide +kernel
theorem dX8_swaps_29 : decode cX8_swaps 29 = .ok (.istore 4, 2) := by decide +kernel
theorem dX8_swaps_31 : decode cX8_swaps 31 = .ok (.iload 4, 2) := by decide +kernel
theorem dX8_swaps_33 : decode cX8_swaps 33 = .ok (.iload_n 3, 1) := by decide +kernel
theorem dX8_swaps_34 : decode cX8_swaps 34 = .ok (.if_icmp .ge 96, 3) := by decide +kernel
theorem dX8_swaps_37 : decode cX8_swaps 37 = .ok (.aload_n 0, 1) := by decide +kernel
theorem dX8_swaps_38 : decode cX8_swaps 38 = .ok (.invokevirtual 175, 3) := by decide +kernel
theorem dX8_swaps_41 : decode cX8_swaps 41 = .ok (.aload_n 0, 1) := by decide +kernel
theorem dX8_swaps_42 : decode cX8_swaps 42 = .ok (.getfield 31, 3) := by decide +kernel
theorem dX8_swaps_45 : decode cX8_swaps 45 = .ok (.iconst 0, 1) := by decide +kernel
theorem dX8_swaps_46 : decode cX8_swaps 46 = .ok (.iload_n 3, 1) := by decide +kernel
theorem dX8_swaps_47 : decode cX8_swaps 47 = .ok (.iadd, 1) := by decide +kernel
theorem dX8_swaps_48 : decode cX8_swaps 48 = .ok (.aload_n 0, 1) := by decide +kernel
theorem dX8_swaps_49 : decode cX8_swaps 49 = .ok (.getfield 28, 3) := by decide +kernel
theorem dX8_swaps_52 : decode cX8_swaps 52 = .ok (.iconst 0, 1) := by decide +kernel
theorem dX8_swaps_53 : decode cX8_swaps 53 = .ok (.iload 4, 2) := by decide +kernel
theorem dX8_swaps_55 : decode cX8_swaps 55 = .ok (.iadd, 1) := by decide +kernel
theorem dX8_swaps_56 : decode cX8_swaps 56 = .ok (.iaload, 1) := by decide +kernel
theorem dX8_swaps_57 : decode cX8_swaps 57 = .ok (.iastore, 1) := by decide +kernel
theorem dX8_swaps_58 : decode cX8_swaps 58 = .ok (.aload_n 0, 1) := by decide +kernel
theorem dX8_swaps_59 : decode cX8_swaps 59 = .ok (.getfield 31, 3) := by decide +kernel
theorem dX8_swaps_62 : decode cX8_swaps 62 = .ok (.iconst 0, 1) := by decide +kernel
theorem dX8_swaps_63 : decode cX8_swaps 63 = .ok (.iload 4, 2) := by decide +kernel
theorem dX8_swaps_65 : decode cX8_swaps 65 = .ok (.iadd, 1) := by decide +kernel
theorem dX8_swaps_66 : decode cX8_swaps 66 = .ok (.aload_n 0, 1) := by decide +kernel
theorem dX8_swaps_67 : decode cX8_swaps 67 = .ok (.getfield 28, 3) := by decide +kernel
theorem dX8_swaps_70 : decode cX8_swaps 70 = .ok (.iconst 0, 1) := by decide +kernel
theorem dX8_swaps_71 : decode cX8_swaps 71 = .ok (.iload_n 3, 1) := by decide +kernel
theorem dX8_swaps_72 : decode cX8_swaps 72 = .ok (.iadd, 1) := by decide +kernel
theorem dX8_swaps_73 : decode cX8_swaps 73 = .ok (.iaload, 1) := by decide +kernel
theorem dX8_swaps_74 : decode cX8_swaps 74 = .ok (.iastore, 1) := by decide +kernel
theorem dX8_swaps_75 : decode cX8_swaps 75 = .ok (.iload_n 2, 1) := by decide +kernel
theorem dX8_swaps_76 : decode cX8_swaps 76 = .ok (.aload_n 0, 1) := by decide +kernel
theorem dX8_swaps_77 : decode cX8_swaps 77 = .ok (.getfield 28, 3) := by decide +kernel
theorem dX8_swaps_80 : decode cX8_swaps 80 = .ok (.iconst 0, 1) := by decide +kernel
theorem dX8_swaps_81 : decode cX8_swaps 81 = .ok (.iload_n 3, 1) := by decide +kernel
theorem dX8_swaps_82 : decode cX8_swaps 82 = .ok (.iadd, 1) := by decide +kernel
theorem dX8_swaps_83 : decode cX8_swaps 83 = .ok (.iaload, 1) := by decide +kernel
theorem dX8_swaps_84 : decode cX8_swaps 84 = .ok (.aload_n 0, 1) := by decide +kernel
theorem dX8_swaps_85 : decode cX8_swaps 85 = .ok (.getfield 28, 3) := by decide +kernel
theorem dX8_swaps_88 : decode cX8_swaps 88 = .ok (.iconst 0, 1) := by decide +kernel
theorem dX8_swaps_89 : decode cX8_swaps 89 = .ok (.iload 4, 2) := by decide +kernel
theorem dX8_swaps_91 : decode cX8_swaps 91 = .ok (.iadd, 1) := by decide +kernel
theorem dX8_swaps_92 : decode cX8_swaps 92 = .ok (.iaload, 1) := by decide +kernel
theorem dX8_swaps_93 : decode cX8_swaps 93 = .ok (.if_icmp .eq 28, 3) := by decide +kernel
theorem dX8_swaps_96 : decode cX8_swaps 96 = .ok (.aload_n 0, 1) := by decide +kernel
theorem dX8_swaps_97 : decode cX8_swaps 97 = .ok (.aload_n 0, 1) := by decide +kernel
theorem dX8_swaps_98 : decode cX8_swaps 98 = .ok (.getfield 31, 3) := by decide +kernel
theorem dX8_swaps_101 : decode cX8_swaps 101 = .ok (.iload_n 1, 1) := by decide +kernel
theorem dX8_swaps_102 : decode cX8_swaps 102 = .ok (.invokevirtual 144, 3) := by decide +kernel
theorem dX8_swaps_105 : decode cX8_swaps 105 = .ok (.aload_n 0, 1) := by decide +kernel
theorem dX8_swaps_106 : decode cX8_swaps 106 = .ok (.aload_n 0, 1) := by decide +kernel
theorem dX8_swaps_107 : decode cX8_swaps 107 = .ok (.getfield 28, 3) := by decide +kernel
theorem dX8_swaps_110 : decode cX8_swaps 110 = .ok (.iload_n 1, 1) := by decide +kernel
theorem dX8_swaps_111 : decode cX8_swaps 111 = .ok (.invokevirtual 144, 3) := by decide +kernel
theorem dX8_swaps_114 : decode cX8_swaps 114 = .ok (.if_icmp .eq 7, 3) := by decide +kernel
theorem dX8_swaps_117 : decode cX8_swaps 117 = .ok (.iconst 1, 1) := by decide +kernel
theorem dX8_swaps_118 : decode cX8_swaps 118 = .ok (.goto 4, 3) := by decide +kernel
theorem dX8_swaps_121 : decode cX8_swaps 121 = .ok (.iconst 0, 1) := by decide +kernel
theorem dX8_swaps_122 : decode cX8_swaps 122 = .ok (.iadd, 1) := by decide +kernel
theorem dX8_swaps_123 : decode cX8_swaps 123 = .ok (.istore_n 2, 1) := by decide +kernel
theorem dX8_swaps_124 : decode cX8_swaps 124 = .ok (.iinc 4 1, 3) := by decide +kernel
theorem dX8_swaps_127 : decode cX8_swaps 127 = .ok (.goto (-96), 3) := by decide +kernel
theorem dX8_swaps_130 : decode cX8_swaps 130 = .ok (.iinc 3 1, 3) := by decide +kernel
theorem dX8_swaps_133 : decode cX8_swaps 133 = .ok (.goto (-115), 3) := by decide +kernel
theorem dX8_swaps_136 : decode cX8_swaps 136 = .ok (.iload_n 2, 1) := by decide +kernel
theorem dX8_swaps_137 : decode cX8_swaps 137 = .ok (.ireturn, 1) := by decide +kernel
set_option maxRecDepth 20000 in
theorem ggX8_record_X8_isBill : GoodIn wsX8_record wsX8_isBill := goodIn_r _ [8, 9, 10, 7, 11] (by decide +kernel) (by decide +kernel)
set_option maxRecDepth 20000 in
theorem gX8_record_X8_isBill : GoodIn wsX8_record (va_wsS RX8 141 yX8_isBill wsX8_isBill) := goodIn_app (goodIn_of _ (by decide +kernel)) ggX8_record_X8_isBill
set_option maxRecDepth 20000 in
theorem ggX8_record_X8_in : GoodIn wsX8_record wsX8_in := goodIn_r _ [11] (by decide +kernel) (by decide +kernel)
set_option maxRecDepth 20000 in
theorem gX8_record_X8_in : GoodIn wsX8_record (va_wsS RX8 54 yX8_in wsX8_in) := goodIn_app (goodIn_of _ (by decide +kernel)) ggX8_record_X8_in
theorem dX8_record_0 : decode cX8_record 0 = .ok (.aload_n 0, 1) := by decide +kernel
theorem dX8_record_1 : decode cX8_record 1 = .ok (.iconst 0, 1) := by decide +kernel
theorem dX8_record_2 : decode cX8_record 2 = .ok (.putfield 50, 3) := by decide +kernel
theorem dX8_record_5 : decode cX8_record 5 = .ok (.iload_n 1, 1) := by decide +kernel
theorem dX8_record_6 : decode cX8_record 6 = .ok (.invokestatic 141, 3) := by decide +kernel
theorem dX8_record_9 : decode cX8_record 9 = .ok (.ifCond .eq 12, 3) := by decide +kernel
theorem dX8_record_12 : decode cX8_record 12 = .ok (.iload_n 2, 1) := by decide +kernel
theorem dX8_record_13 : decode cX8_record 13 = .ok (.iconst 0, 1) := by decide +kernel
theorem dX8_record_14 : decode cX8_record 14 = .ok (.iconst 1, 1) := by decide +kernel
theorem dX8_record_15 : decode cX8_record 15 = .ok (.invokestatic 54, 3) := by decide +kernel
theorem dX8_record_18 : decode cX8_record 18 = .ok (.ifCond .ne 5, 3) := by decide +kernel
theorem dX8_record_21 : decode cX8_record 21 = .ok (.iconst (-1), 1) := by decide +kernel
theorem dX8_record_22 : decode cX8_record 22 = .ok (.ireturn, 1) := by decide +kernel
theorem dX8_record_23 : decode cX8_record 23 = .ok (.aload_n 0, 1) := by decide +kernel
theorem dX8_record_24 : decode cX8_record 24 = .ok (.getfield 106, 3) := by decide +kernel
theorem dX8_record_27 : decode cX8_record 27 = .ok (.bipush 6, 2) := by decide +kernel
theorem dX8_record_29 : decode cX8_record 29 = .ok (.if_icmp .ne 6, 3) := by decide +kernel
theorem dX8_record_32 : decode cX8_record 32 = .ok (.bipush (-3), 2) := by decide +kernel
theorem dX8_record_34 : decode cX8_record 34 = .ok (.ireturn, 1) := by decide +kernel
theorem dX8_record_35 : decode cX8_record 35 = .ok (.aload_n 0, 1) := by decide +kernel
theorem dX8_record_36 : decode cX8_record 36 = .ok (.getfield 44, 3) := by decide +kernel
theorem dX8_record_39 : decode cX8_record 39 = .ok (.aload_n 0, 1) := by decide +kernel
theorem dX8_record_40 : decode cX8_record 40 = .ok (.getfield 106, 3) := by decide +kernel
theorem dX8_record_43 : decode cX8_record 43 = .ok (.iload_n 1, 1) := by decide +kernel
theorem dX8_record_44 : decode cX8_record 44 = .ok (.iastore, 1) := by decide +kernel
theorem dX8_record_45 : decode cX8_record 45 = .ok (.aload_n 0, 1) := by decide +kernel
theorem dX8_record_46 : decode cX8_record 46 = .ok (.getfield 47, 3) := by decide +kernel
theorem dX8_record_49 : decode cX8_record 49 = .ok (.aload_n 0, 1) := by decide +kernel
theorem dX8_record_50 : decode cX8_record 50 = .ok (.getfield 106, 3) := by decide +kernel
theorem dX8_record_53 : decode cX8_record 53 = .ok (.iload_n 2, 1) := by decide +kernel
theorem dX8_record_54 : decode cX8_record 54 = .ok (.iastore, 1) := by decide +kernel
theorem dX8_record_55 : decode cX8_record 55 = .ok (.aload_n 0, 1) := by decide +kernel
theorem dX8_record_56 : decode cX8_record 56 = .ok (.dup, 1) := by decide +kernel
theorem dX8_record_57 : decode cX8_record 57 = .ok (.getfield 106, 3) := by decide +kernel
theorem dX8_record_60 : decode cX8_record 60 = .ok (.iconst 1, 1) := by decide +kernel
theorem dX8_record_61 : decode cX8_record 61 = .ok (.iadd, 1) := by decide +kernel
theorem dX8_record_62 : decode cX8_record 62 = .ok (.putfield 106, 3) := by decide +kernel
theorem dX8_record_65 : decode cX8_record 65 = .ok (.aload_n 0, 1) := by decide +kernel
theorem dX8_record_66 : decode cX8_record 66 = .ok (.getfield 106, 3) := by decide +kernel
theorem dX8_record_69 : decode cX8_record 69 = .ok (.ireturn, 1) := by decide +kernel
theorem dX8_forget_0 : decode cX8_forget 0 = .ok (.aload_n 0, 1) := by decide +kernel
theorem dX8_forget_1 : decode cX8_forget 1 = .ok (.iconst 0, 1) := by decide +kernel
theorem dX8_forget_2 : decode cX8_forget 2 = .ok (.putfield 50, 3) := by decide +kernel
theorem dX8_forget_5 : decode cX8_forget 5 = .ok (.aload_n 0, 1) := by decide +kernel
theorem dX8_forget_6 : decode cX8_forget 6 = .ok (.getfield 106, 3) := by decide +kernel
theorem dX8_forget_9 : decode cX8_forget 9 = .ok (.istore_n 1, 1) := by decide +kernel
theorem dX8_forget_10 : decode cX8_forget 10 = .ok (.aload_n 0, 1) := by decide +kernel
theorem dX8_forget_11 : decode cX8_forget 11 = .ok (.iconst 0, 1) := by decide +kernel
theorem dX8_forget_12 : decode cX8_forget 12 = .ok (.putfield 106, 3) := by decide +kernel
theorem dX8_forget_15 : decode cX8_forget 15 = .ok (.iload_n 1, 1) := by decide +kernel
theorem dX8_forget_16 : decode cX8_forget 16 = .ok (.ireturn, 1) := by decide +kernel
set_option maxRecDepth 20000 in
theorem ggX8_isAsRecorded_X8_passes : GoodIn wsX8_isAsRecorded wsX8_passes := goodIn_r _ [8, 9, 10, 11, 7, 12, 13, 14, 15, 16, 17, 18, 19, 20, 21, 22, 23, 24, 25, 26, 27, 28, 29, 30, 31, 32, 33, 34, 35, 36, 37, 38, 39, 40, 41, 42, 43, 44, 45, 46, 47, 48, 49, 50, 51, 52, 53, 54, 55, 56] (by decide +kernel) (by decide +kernel)
set_option maxRecDepth 20000 in
theorem gX8_isAsRecorded_X8_passes : GoodIn wsX8_isAsRecorded (wsV RX8 144 RX8 yX8_passes wsX8_passes) := goodIn_app (goodIn_of _ (by decide +kernel)) ggX8_isAsRecorded_X8_passes
theorem dX8_isAsRecorded_0 : decode cX8_isAsRecorded 0 = .ok (.iconst 1, 1) := by decide +kernel
theorem dX8_isAsRecorded_1 : decode cX8_isAsRecorded 1 = .ok (.istore_n 2, 1) := by decide +kernel
theorem dX8_isAsRecorded_2 : decode cX8_isAsRecorded 2 = .ok (.iconst 0, 1) := by decide +kernel
theorem dX8_isAsRecorded_3 : decode cX8_isAsRecorded 3 = .ok (.istore_n 3, 1) := by decide +kernel
theorem dX8_isAsRecorded_4 : decode cX8_isAsRecorded 4 = .ok (.iload_n 3, 1) := by decide +kernel
theorem dX8_isAsRecorded_5 : decode cX8_isAsRecorded 5 = .ok (.aload_n 0, 1) := by decide +kernel
theorem dX8_isAsRecorded_6 : decode cX8_isAsRecorded 6 = .ok (.getfield 106, 3) := by decide +kernel
theorem dX8_isAsRecorded_9 : decode cX8_isAsRecorded 9 = .ok (.if_icmp .ge 48, 3) := by decide +kernel
theorem dX8_isAsRecorded_12 : decode cX8_isAsRecorded 12 = .ok (.iload_n 2, 1) := by decide +kernel
theorem dX8_isAsRecorded_13 : decode cX8_isAsRecorded 13 = .ok (.ifCond .eq 36, 3) := by decide +kernel
theorem dX8_isAsRecorded_16 : decode cX8_isAsRecorded 16 = .ok (.aload_n 0, 1) := by decide +kernel
theorem dX8_isAsRecorded_17 : decode cX8_isAsRecorded 17 = .ok (.aload_n 1, 1) := by decide +kernel
theorem dX8_isAsRecorded_18 : decode cX8_isAsRecorded 18 = .ok (.aload_n 0, 1) := by decide +kernel
theorem dX8_isAsRecorded_19 : decode cX8_isAsRecorded 19 = .ok (.getfield 44, 3) := by decide +kernel
theorem dX8_isAsRecorded_22 : decode cX8_isAsRecorded 22 = .ok (.iload_n 3, 1) := by decide +kernel
theorem dX8_isAsRecorded_23 : decode cX8_isAsRecorded 23 = .ok (.iaload, 1) := by decide +kernel
theorem dX8_isAsRecorded_24 : decode cX8_isAsRecorded 24 = .ok (.invokevirtual 144, 3) := by decide +kernel
theorem dX8_isAsRecorded_27 : decode cX8_isAsRecorded 27 = .ok (.aload_n 0, 1) := by decide +kernel
theorem dX8_isAsRecorded_28 : decode cX8_isAsRecorded 28 = .ok (.getfield 47, 3) := by decide +kernel
theorem dX8_isAsRecorded_31 : decode cX8_isAsRecorded 31 = .ok (.iload_n 3, 1) := by decide +kernel
theorem dX8_isAsRecorded_32 : decode cX8_isAsRecorded 32 = .ok (.iaload, 1) := by decide +kernel
theorem dX8_isAsRecorded_33 : decode cX8_isAsRecorded 33 = .ok (.iconst 1, 1) := by decide +kernel
theorem dX8_isAsRecorded_34 : decode cX8_isAsRecorded 34 = .ok (.if_icmp .ne 7, 3) := by decide +kernel
theorem dX8_isAsRecorded_37 : decode cX8_isAsRecorded 37 = .ok (.iconst 1, 1) := by decide +kernel
theorem dX8_isAsRecorded_38 : decode cX8_isAsRecorded 38 = .ok (.goto 4, 3) := by decide +kernel
theorem dX8_isAsRecorded_41 : decode cX8_isAsRecorded 41 = .ok (.iconst 0, 1) := by decide +kernel
theorem dX8_isAsRecorded_42 : decode cX8_isAsRecorded 42 = .ok (.if_icmp .ne 7, 3) := by decide +kernel
theorem dX8_isAsRecorded_45 : decode cX8_isAsRecorded 45 = .ok (.iconst 1, 1) := by decide +kernel
theorem dX8_isAsRecorded_46 : decode cX8_isAsRecorded 46 = .ok (.goto 4, 3) := by decide +kernel
theorem dX8_isAsRecorded_49 : decode cX8_isAsRecorded 49 = .ok (.iconst 0, 1) := by decide +kernel
theorem dX8_isAsRecorded_50 : decode cX8_isAsRecorded 50 = .ok (.istore_n 2, 1) := by decide +kernel
theorem dX8_isAsRecorded_51 : decode cX8_isAsRecorded 51 = .ok (.iinc 3 1, 3) := by decide +kernel
theorem dX8_isAsRecorded_54 : decode cX8_isAsRecorded 54 = .ok (.goto (-50), 3) := by decide +kernel
theorem dX8_isAsRecorded_57 : decode cX8_isAsRecorded 57 = .ok (.iload_n 2, 1) := by decide +kernel
theorem dX8_isAsRecorded_58 : decode cX8_isAsRecorded 58 = .ok (.ireturn, 1) := by decide +kernel
set_option maxRecDepth 20000 in
theorem ggX8_isFor_X8_isThing : GoodIn wsX8_isFor wsX8_isThing := goodIn_r _ [8, 9, 10, 11, 7, 12, 46, 47, 48, 49, 50, 51, 52, 53, 54, 55, 56, 57, 58, 59, 60, 61, 62, 63, 64, 65, 66, 67, 68, 69] (by decide +kernel) (by decide +kernel)
set_option maxRecDepth 20000 in
theorem gX8_isFor_X8_isThing : GoodIn wsX8_isFor (wsV RX8 131 RX8 yX8_isThing wsX8_isThing) := goodIn_app (goodIn_of _ (by decide +kernel)) ggX8_isFor_X8_isThing
set_option maxRecDepth 20000 in
theorem ggX8_isFor_X8_in : GoodIn wsX8_isFor wsX8_in := goodIn_r _ [12] (by decide +kernel) (by decide +kernel)
set_option maxRecDepth 20000 in
theorem gX8_isFor_X8_in : GoodIn wsX8_isFor (va_wsS RX8 54 yX8_in wsX8_in) := goodIn_app (goodIn_of _ (by decide +kernel)) ggX8_isFor_X8_in
set_option maxRecDepth 20000 in
theorem ggX8_isFor_X8_isAsRecorded : GoodIn wsX8_isFor wsX8_isAsRecorded := goodIn_r _ [16, 17, 18, 19, 20, 21, 22, 7, 23, 24, 25, 26, 27, 9, 28, 29, 30, 31, 32, 33, 34, 35, 36, 2, 37, 38, 39, 40, 41, 42, 43, 44, 45, 46, 47, 48, 49, 50, 51, 52, 53, 54, 55, 56, 57, 58, 59, 60, 61, 62, 63, 64, 65, 66, 67, 68, 69] (by decide +kernel) (by decide +kernel)
set_option maxRecDepth 20000 in
theorem gX8_isFor_X8_isAsRecorded : GoodIn wsX8_isFor (wsV RX8 178 RX8 yX8_isAsRecorded wsX8_isAsRecorded) := goodIn_app (goodIn_of _ (by decide +kernel)) ggX8_isFor_X8_isAsRecorded
theorem dX8_isFor_0 : decode cX8_isFor 0 = .ok (.aload_n 0, 1) := by decide +kernel
theorem dX8_isFor_1 : decode cX8_isFor 1 = .ok (.iconst 0, 1) := by decide +kernel
theorem dX8_isFor_2 : decode cX8_isFor 2 = .ok (.putfield 50, 3) := by decide +kernel
theorem dX8_isFor_5 : decode cX8_isFor 5 = .ok (.aload_n 0, 1) := by decide +kernel
theorem dX8_isFor_6 : decode cX8_isFor 6 = .ok (.iload_n 1, 1) := by decide +kernel
theorem dX8_isFor_7 : decode cX8_isFor 7 = .ok (.invokevirtual 131, 3) := by decide +kernel
theorem dX8_isFor_10 : decode cX8_isFor 10 = .ok (.ifCond .eq 12, 3) := by decide +kernel
theorem dX8_isFor_13 : decode cX8_isFor 13 = .ok (.iload_n 2, 1) := by decide +kernel
theorem dX8_isFor_14 : decode cX8_isFor 14 = .ok (.iconst 0, 1) := by decide +kernel
theorem dX8_isFor_15 : decode cX8_isFor 15 = .ok (.iconst 1, 1) := by decide +kernel
theorem dX8_isFor_16 : decode cX8_isFor 16 = .ok (.invokestatic 54, 3) := by decide +kernel
theorem dX8_isFor_19 : decode cX8_isFor 19 = .ok (.ifCond .ne 5, 3) := by decide +kernel
theorem dX8_isFor_22 : decode cX8_isFor 22 = .ok (.iconst (-1), 1) := by decide +kernel
theorem dX8_isFor_23 : decode cX8_isFor 23 = .ok (.ireturn, 1) := by decide +kernel
theorem dX8_isFor_24 : decode cX8_isFor 24 = .ok (.aload_n 0, 1) := by decide +kernel
theorem dX8_isFor_25 : decode cX8_isFor 25 = .ok (.getfield 22, 3) := by decide +kernel
theorem dX8_isFor_28 : decode cX8_isFor 28 = .ok (.iload_n 1, 1) := by decide +kernel
theorem dX8_isFor_29 : decode cX8_isFor 29 = .ok (.iaload, 1) := by decide +kernel
theorem dX8_isFor_30 : decode cX8_isFor 30 = .ok (.istore_n 3, 1) := by decide +kernel
theorem dX8_isFor_31 : decode cX8_isFor 31 = .ok (.iconst 0, 1) := by decide +kernel
theorem dX8_isFor_32 : decode cX8_isFor 32 = .ok (.istore 4, 2) := by decide +kernel
theorem dX8_isFor_34 : decode cX8_isFor 34 = .ok (.bipush (-9), 2) := by decide +kernel
theorem dX8_isFor_36 : decode cX8_isFor 36 = .ok (.istore 5, 2) := by decide +kernel
theorem dX8_isFor_38 : decode cX8_isFor 38 = .ok (.iconst 0, 1) := by decide +kernel
theorem dX8_isFor_39 : decode cX8_isFor 39 = .ok (.istore 6, 2) := by decide +kernel
theorem dX8_isFor_41 : decode cX8_isFor 41 = .ok (.iload 6, 2) := by decide +kernel
theorem dX8_isFor_43 : decode cX8_isFor 43 = .ok (.bipush 32, 2) := by decide +kernel
theorem dX8_isFor_45 : decode cX8_isFor 45 = .ok (.if_icmp .ge 45, 3) := by decide +kernel
theorem dX8_isFor_48 : decode cX8_isFor 48 = .ok (.aload_n 0, 1) := by decide +kernel
theorem dX8_isFor_49 : decode cX8_isFor 49 = .ok (.getfield 22, 3) := by decide +kernel
theorem dX8_isFor_52 : decode cX8_isFor 52 = .ok (.iload_n 1, 1) := by decide +kernel
theorem dX8_isFor_53 : decode cX8_isFor 53 = .ok (.iload 6, 2) := by decide +kernel
theorem dX8_isFor_55 : decode cX8_isFor 55 = .ok (.iastore, 1) := by decide +kernel
theorem dX8_isFor_56 : decode cX8_isFor 56 = .ok (.aload_n 0, 1) := by decide +kernel
theorem dX8_isFor_57 : decode cX8_isFor 57 = .ok (.aload_n 0, 1) := by decide +kernel
theorem dX8_isFor_58 : decode cX8_isFor 58 = .ok (.getfield 28, 3) := by decide +kernel
theorem dX8_isFor_61 : decode cX8_isFor 61 = .ok (.invokevirtual 178, 3) := by decide +kernel
theorem dX8_isFor_64 : decode cX8_isFor 64 = .ok (.ifCond .eq 20, 3) := by decide +kernel
theorem dX8_isFor_67 : decode cX8_isFor 67 = .ok (.iload 4, 2) := by decide +kernel
theorem dX8_isFor_69 : decode cX8_isFor 69 = .ok (.ifCond .ne 8, 3) := by decide +kernel
theorem dX8_isFor_72 : decode cX8_isFor 72 = .ok (.iload 6, 2) := by decide +kernel
theorem dX8_isFor_74 : decode cX8_isFor 74 = .ok (.goto 5, 3) := by decide +kernel
theorem dX8_isFor_77 : decode cX8_isFor 77 = .ok (.iload 5, 2) := by decide +kernel
theorem dX8_isFor_79 : decode cX8_isFor 79 = .ok (.istore 5, 2) := by decide +kernel
theorem dX8_isFor_81 : decode cX8_isFor 81 = .ok (.iinc 4 1, 3) := by decide +kernel
theorem dX8_isFor_84 : decode cX8_isFor 84 = .ok (.iinc 6 1, 3) := by decide +kernel
theorem dX8_isFor_87 : decode cX8_isFor 87 = .ok (.goto (-46), 3) := by decide +kernel
theorem dX8_isFor_90 : decode cX8_isFor 90 = .ok (.aload_n 0, 1) := by decide +kernel
theorem dX8_isFor_91 : decode cX8_isFor 91 = .ok (.getfield 22, 3) := by decide +kernel
theorem dX8_isFor_94 : decode cX8_isFor 94 = .ok (.iload_n 1, 1) := by decide +kernel
theorem dX8_isFor_95 : decode cX8_isFor 95 = .ok (.iload_n 3, 1) := by decide +kernel
theorem dX8_isFor_96 : decode cX8_isFor 96 = .ok (.iastore, 1) := by decide +kernel
theorem dX8_isFor_97 : decode cX8_isFor 97 = .ok (.iload_n 2, 1) := by decide +kernel
theorem dX8_isFor_98 : decode cX8_isFor 98 = .ok (.ifCond .ne 8, 3) := by decide +kernel
theorem dX8_isFor_101 : decode cX8_isFor 101 = .ok (.iload 4, 2) := by decide +kernel
theorem dX8_isFor_103 : decode cX8_isFor 103 = .ok (.goto 5, 3) := by decide +kernel
theorem dX8_isFor_106 : decode cX8_isFor 106 = .ok (.iload 5, 2) := by decide +kernel
theorem dX8_isFor_108 : decode cX8_isFor 108 = .ok (.ireturn, 1) := by decide +kernel
set_option maxRecDepth 20000 in
theorem ggX8_who_X8_asNow : GoodIn wsX8_who wsX8_asNow := goodIn_r _ [8, 2, 9, 44, 45, 46, 47, 48, 49, 50, 51, 52, 53, 54, 55, 56, 57, 58, 59, 60, 61, 62, 63, 64, 65, 66, 67] (by decide +kernel) (by decide +kernel)
set_option maxRecDepth 20000 in
theorem gX8_who_X8_asNow : GoodIn wsX8_who (wsV RX8 175 RX8 yX8_asNow wsX8_asNow) := goodIn_app (goodIn_of _ (by decide +kernel)) ggX8_who_X8_asNow
set_option maxRecDepth 20000 in
theorem ggX8_who_X8_isAsRecorded : GoodIn wsX8_who wsX8_isAsRecorded := goodIn_r _ [13, 14, 15, 16, 17, 18, 19, 7, 20, 21, 22, 23, 24, 3, 25, 26, 27, 28, 29, 30, 31, 32, 33, 34, 35, 36, 37, 38, 39, 40, 41, 42, 43, 44, 45, 46, 47, 48, 49, 50, 51, 52, 53, 54, 55, 56, 57, 58, 59, 60, 61, 62, 63, 64, 65, 66, 67] (by decide +kernel) (by decide +kernel)
set_option maxRecDepth 20000 in
theorem gX8_who_X8_isAsRecorded : GoodIn wsX8_who (wsV RX8 178 RX8 yX8_isAsRecorded wsX8_isAsRecorded) := goodIn_app (goodIn_of _ (by decide +kernel)) ggX8_who_X8_isAsRecorded
theorem dX8_who_0 : decode cX8_who 0 = .ok (.aload_n 0, 1) := by decide +kernel
theorem dX8_who_1 : decode cX8_who 1 = .ok (.iconst 0, 1) := by decide +kernel
theorem dX8_who_2 : decode cX8_who 2 = .ok (.putfield 50, 3) := by decide +kernel
theorem dX8_who_5 : decode cX8_who 5 = .ok (.aload_n 0, 1) := by decide +kernel
theorem dX8_who_6 : decode cX8_who 6 = .ok (.invokevirtual 175, 3) := by decide +kernel
theorem dX8_who_9 : decode cX8_who 9 = .ok (.aload_n 0, 1) := by decide +kernel
theorem dX8_who_10 : decode cX8_who 10 = .ok (.getfield 31, 3) := by decide +kernel
theorem dX8_who_13 : decode cX8_who 13 = .ok (.bipush 16, 2) := by decide +kernel
theorem dX8_who_15 : decode cX8_who 15 = .ok (.iconst 0, 1) := by decide +kernel
theorem dX8_who_16 : decode cX8_who 16 = .ok (.iastore, 1) := by decide +kernel
theorem dX8_who_17 : decode cX8_who 17 = .ok (.aload_n 0, 1) := by decide +kernel
theorem dX8_who_18 : decode cX8_who 18 = .ok (.aload_n 0, 1) := by decide +kernel
theorem dX8_who_19 : decode cX8_who 19 = .ok (.getfield 31, 3) := by decide +kernel
theorem dX8_who_22 : decode cX8_who 22 = .ok (.invokevirtual 178, 3) := by decide +kernel
theorem dX8_who_25 : decode cX8_who 25 = .ok (.ifCond .eq 8, 3) := by decide +kernel
theorem dX8_who_28 : decode cX8_who 28 = .ok (.bipush 32, 2) := by decide +kernel
theorem dX8_who_30 : decode cX8_who 30 = .ok (.goto 4, 3) := by decide +kernel
theorem dX8_who_33 : decode cX8_who 33 = .ok (.iconst 0, 1) := by decide +kernel
theorem dX8_who_34 : decode cX8_who 34 = .ok (.istore_n 1, 1) := by decide +kernel
theorem dX8_who_35 : decode cX8_who 35 = .ok (.iconst 0, 1) := by decide +kernel
theorem dX8_who_36 : decode cX8_who 36 = .ok (.istore_n 2, 1) := by decide +kernel
theorem dX8_who_37 : decode cX8_who 37 = .ok (.iload_n 2, 1) := by decide +kernel
theorem dX8_who_38 : decode cX8_who 38 = .ok (.aload_n 0, 1) := by decide +kernel
theorem dX8_who_39 : decode cX8_who 39 = .ok (.getfield 13, 3) := by decide +kernel
theorem dX8_who_42 : decode cX8_who 42 = .ok (.iconst 1, 1) := by decide +kernel
theorem dX8_who_43 : decode cX8_who 43 = .ok (.iaload, 1) := by decide +kernel
theorem dX8_who_44 : decode cX8_who 44 = .ok (.if_icmp .ge 40, 3) := by decide +kernel
theorem dX8_who_47 : decode cX8_who 47 = .ok (.aload_n 0, 1) := by decide +kernel
theorem dX8_who_48 : decode cX8_who 48 = .ok (.getfield 31, 3) := by decide +kernel
theorem dX8_who_51 : decode cX8_who 51 = .ok (.bipush 16, 2) := by decide +kernel
theorem dX8_who_53 : decode cX8_who 53 = .ok (.iconst 1, 1) := by decide +kernel
theorem dX8_who_54 : decode cX8_who 54 = .ok (.iload_n 2, 1) := by decide +kernel
theorem dX8_who_55 : decode cX8_who 55 = .ok (.ishl, 1) := by decide +kernel
theorem dX8_who_56 : decode cX8_who 56 = .ok (.iastore, 1) := by decide +kernel
theorem dX8_who_57 : decode cX8_who 57 = .ok (.iload_n 1, 1) := by decide +kernel
theorem dX8_who_58 : decode cX8_who 58 = .ok (.aload_n 0, 1) := by decide +kernel
theorem dX8_who_59 : decode cX8_who 59 = .ok (.aload_n 0, 1) := by decide +kernel
theorem dX8_who_60 : decode cX8_who 60 = .ok (.getfield 31, 3) := by decide +kernel
theorem dX8_who_63 : decode cX8_who 63 = .ok (.invokevirtual 178, 3) := by decide +kernel
theorem dX8_who_66 : decode cX8_who 66 = .ok (.ifCond .eq 9, 3) := by decide +kernel
theorem dX8_who_69 : decode cX8_who 69 = .ok (.iconst 1, 1) := by decide +kernel
theorem dX8_who_70 : decode cX8_who 70 = .ok (.iload_n 2, 1) := by decide +kernel
theorem dX8_who_71 : decode cX8_who 71 = .ok (.ishl, 1) := by decide +kernel
theorem dX8_who_72 : decode cX8_who 72 = .ok (.goto 4, 3) := by decide +kernel
theorem dX8_who_75 : decode cX8_who 75 = .ok (.iconst 0, 1) := by decide +kernel
theorem dX8_who_76 : decode cX8_who 76 = .ok (.ior, 1) := by decide +kernel
theorem dX8_who_77 : decode cX8_who 77 = .ok (.istore_n 1, 1) := by decide +kernel
theorem dX8_who_78 : decode cX8_who 78 = .ok (.iinc 2 1, 3) := by decide +kernel
theorem dX8_who_81 : decode cX8_who 81 = .ok (.goto (-44), 3) := by decide +kernel
theorem dX8_who_84 : decode cX8_who 84 = .ok (.iload_n 1, 1) := by decide +kernel
theorem dX8_who_85 : decode cX8_who 85 = .ok (.ireturn, 1) := by decide +kernel
set_option maxRecDepth 20000 in
theorem ggX8_odds_X8_isBill : GoodIn wsX8_odds wsX8_isBill := goodIn_r _ [7, 8, 9, 6, 10] (by decide +kernel) (by decide +kernel)
set_option maxRecDepth 20000 in
theorem gX8_odds_X8_isBill : GoodIn wsX8_odds (va_wsS RX8 141 yX8_isBill wsX8_isBill) := goodIn_app (goodIn_of _ (by decide +kernel)) ggX8_odds_X8_isBill
set_option maxRecDepth 20000 in
theorem ggX8_odds_X8_in : GoodIn wsX8_odds wsX8_in := goodIn_r _ [10] (by decide +kernel) (by decide +kernel)
set_option maxRecDepth 20000 in
theorem gX8_odds_X8_in : GoodIn wsX8_odds (va_wsS RX8 54 yX8_in wsX8_in) := goodIn_app (goodIn_of _ (by decide +kernel)) ggX8_odds_X8_in
set_option maxRecDepth 20000 in
theorem ggX8_odds_X8_asNow : GoodIn wsX8_odds wsX8_asNow := goodIn_r _ [14, 3, 15, 46, 47, 48, 49, 50, 51, 52, 53, 54, 55, 56, 57, 58, 59, 60, 61, 62, 63, 64, 65, 66, 67, 68, 69] (by decide +kernel) (by decide +kernel)
set_option maxRecDepth 20000 in
theorem gX8_odds_X8_asNow : GoodIn wsX8_odds (wsV RX8 175 RX8 yX8_asNow wsX8_asNow) := goodIn_app (goodIn_of _ (by decide +kernel)) ggX8_odds_X8_asNow
set_option maxRecDepth 20000 in
theorem ggX8_odds_X8_passes : GoodIn wsX8_odds wsX8_passes := goodIn_r _ [19, 20, 21, 22, 6, 23, 2, 24, 25, 26, 27, 28, 29, 30, 31, 32, 33, 34, 35, 36, 37, 38, 39, 40, 41, 42, 46, 47, 48, 49, 50, 51, 52, 53, 54, 55, 56, 57, 58, 59, 60, 61, 62, 63, 64, 65, 66, 67, 68, 69] (by decide +kernel) (by decide +kernel)
set_option maxRecDepth 20000 in
theorem gX8_odds_X8_passes : GoodIn wsX8_odds (wsV RX8 144 RX8 yX8_passes wsX8_passes) := goodIn_app (goodIn_of _ (by decide +kernel)) ggX8_odds_X8_passes
set_option maxRecDepth 20000 in
theorem ggX8_odds_X8_gcd : GoodIn wsX8_odds wsX8_gcd := goodIn_r _ [45] (by decide +kernel) (by decide +kernel)
set_option maxRecDepth 20000 in
theorem gX8_odds_X8_gcd : GoodIn wsX8_odds (va_wsS RX8 166 yX8_gcd wsX8_gcd) := goodIn_app (goodIn_of _ (by decide +kernel)) ggX8_odds_X8_gcd
theorem dX8_odds_0 : decode cX8_odds 0 = .ok (.aload_n 0, 1) := by decide +kernel
theorem dX8_odds_1 : decode cX8_odds 1 = .ok (.iconst 0, 1) := by decide +kernel
theorem dX8_odds_2 : decode cX8_odds 2 = .ok (.putfield 50, 3) := by decide +kernel
theorem dX8_odds_5 : decode cX8_odds 5 = .ok (.iload_n 1, 1) := by decide +kernel
theorem dX8_odds_6 : decode cX8_odds 6 = .ok (.invokestatic 141, 3) := by decide +kernel
theorem dX8_odds_9 : decode cX8_odds 9 = .ok (.ifCond .eq 22, 3) := by decide +kernel
theorem dX8_odds_12 : decode cX8_odds 12 = .ok (.iload_n 2, 1) := by decide +kernel
theorem dX8_odds_13 : decode cX8_odds 13 = .ok (.iconst 0, 1) := by decide +kernel
theorem dX8_odds_14 : decode cX8_odds 14 = .ok (.bipush 10, 2) := by decide +kernel
theorem dX8_odds_16 : decode cX8_odds 16 = .ok (.invokestatic 54, 3) := by decide +kernel
theorem dX8_odds_19 : decode cX8_odds 19 = .ok (.ifCond .eq 12, 3) := by decide +kernel
theorem dX8_odds_22 : decode cX8_odds 22 = .ok (.iload_n 3, 1) := by decide +kernel
theorem dX8_odds_23 : decode cX8_odds 23 = .ok (.iconst 0, 1) := by decide +kernel
theorem dX8_odds_24 : decode cX8_odds 24 = .ok (.iconst 1, 1) := by decide +kernel
theorem dX8_odds_25 : decode cX8_odds 25 = .ok (.invokestatic 54, 3) := by decide +kernel
theorem dX8_odds_28 : decode cX8_odds 28 = .ok (.ifCond .ne 5, 3) := by decide +kernel
theorem dX8_odds_31 : decode cX8_odds 31 = .ok (.iconst (-1), 1) := by decide +kernel
theorem dX8_odds_32 : decode cX8_odds 32 = .ok (.ireturn, 1) := by decide +kernel
theorem dX8_odds_33 : decode cX8_odds 33 = .ok (.iconst 0, 1) := by decide +kernel
theorem dX8_odds_34 : decode cX8_odds 34 = .ok (.istore 4, 2) := by decide +kernel
theorem dX8_odds_36 : decode cX8_odds 36 = .ok (.iconst 1, 1) := by decide +kernel
theorem dX8_odds_37 : decode cX8_odds 37 = .ok (.istore 5, 2) := by decide +kernel
theorem dX8_odds_39 : decode cX8_odds 39 = .ok (.iconst 0, 1) := by decide +kernel
theorem dX8_odds_40 : decode cX8_odds 40 = .ok (.istore 6, 2) := by decide +kernel
theorem dX8_odds_42 : decode cX8_odds 42 = .ok (.iload 6, 2) := by decide +kernel
theorem dX8_odds_44 : decode cX8_odds 44 = .ok (.aload_n 0, 1) := by decide +kernel
theorem dX8_odds_45 : decode cX8_odds 45 = .ok (.getfield 13, 3) := by decide +kernel
theorem dX8_odds_48 : decode cX8_odds 48 = .ok (.iconst 1, 1) := by decide +kernel
theorem dX8_odds_49 : decode cX8_odds 49 = .ok (.iaload, 1) := by decide +kernel
theorem dX8_odds_50 : decode cX8_odds 50 = .ok (.if_icmp .ge 16, 3) := by decide +kernel
theorem dX8_odds_53 : decode cX8_odds 53 = .ok (.iload 5, 2) := by decide +kernel
theorem dX8_odds_55 : decode cX8_odds 55 = .ok (.bipush 10, 2) := by decide +kernel
theorem dX8_odds_57 : decode cX8_odds 57 = .ok (.imul, 1) := by decide +kernel
theorem dX8_odds_58 : decode cX8_odds 58 = .ok (.istore 5, 2) := by decide +kernel
theorem dX8_odds_60 : decode cX8_odds 60 = .ok (.iinc 6 1, 3) := by decide +kernel
theorem dX8_odds_63 : decode cX8_odds 63 = .ok (.goto (-21), 3) := by decide +kernel
theorem dX8_odds_66 : decode cX8_odds 66 = .ok (.aload_n 0, 1) := by decide +kernel
theorem dX8_odds_67 : decode cX8_odds 67 = .ok (.invokevirtual 175, 3) := by decide +kernel
theorem dX8_odds_70 : decode cX8_odds 70 = .ok (.iconst 0, 1) := by decide +kernel
theorem dX8_odds_71 : decode cX8_odds 71 = .ok (.istore 6, 2) := by decide +kernel
theorem dX8_odds_73 : decode cX8_odds 73 = .ok (.iload 6, 2) := by decide +kernel
theorem dX8_odds_75 : decode cX8_odds 75 = .ok (.iconst 1, 1) := by decide +kernel
theorem dX8_odds_76 : decode cX8_odds 76 = .ok (.aload_n 0, 1) := by decide +kernel
theorem dX8_odds_77 : decode cX8_odds 77 = .ok (.getfield 13, 3) := by decide +kernel
theorem dX8_odds_80 : decode cX8_odds 80 = .ok (.iconst 1, 1) := by decide +kernel
theorem dX8_odds_81 : decode cX8_odds 81 = .ok (.iaload, 1) := by decide +kernel
theorem dX8_odds_82 : decode cX8_odds 82 = .ok (.ishl, 1) := by decide +kernel
theorem dX8_odds_83 : decode cX8_odds 83 = .ok (.if_icmp .ge 88, 3) := by decide +kernel
theorem dX8_odds_86 : decode cX8_odds 86 = .ok (.iconst 1, 1) := by decide +kernel
theorem dX8_odds_87 : decode cX8_odds 87 = .ok (.istore 7, 2) := by decide +kernel
theorem dX8_odds_89 : decode cX8_odds 89 = .ok (.iconst 0, 1) := by decide +kernel
theorem dX8_odds_90 : decode cX8_odds 90 = .ok (.istore 8, 2) := by decide +kernel
theorem dX8_odds_92 : decode cX8_odds 92 = .ok (.iload 8, 2) := by decide +kernel
theorem dX8_odds_94 : decode cX8_odds 94 = .ok (.aload_n 0, 1) := by decide +kernel
theorem dX8_odds_95 : decode cX8_odds 95 = .ok (.getfield 13, 3) := by decide +kernel
theorem dX8_odds_98 : decode cX8_odds 98 = .ok (.iconst 1, 1) := by decide +kernel
theorem dX8_odds_99 : decode cX8_odds 99 = .ok (.iaload, 1) := by decide +kernel
theorem dX8_odds_100 : decode cX8_odds 100 = .ok (.if_icmp .ge 33, 3) := by decide +kernel
theorem dX8_odds_103 : decode cX8_odds 103 = .ok (.iload 7, 2) := by decide +kernel
theorem dX8_odds_105 : decode cX8_odds 105 = .ok (.iload 6, 2) := by decide +kernel
theorem dX8_odds_107 : decode cX8_odds 107 = .ok (.iload 8, 2) := by decide +kernel
theorem dX8_odds_109 : decode cX8_odds 109 = .ok (.ishr, 1) := by decide +kernel
theorem dX8_odds_110 : decode cX8_odds 110 = .ok (.iconst 1, 1) := by decide +kernel
theorem dX8_odds_111 : decode cX8_odds 111 = .ok (.iand, 1) := by decide +kernel
theorem dX8_odds_112 : decode cX8_odds 112 = .ok (.iconst 1, 1) := by decide +kernel
theorem dX8_odds_113 : decode cX8_odds 113 = .ok (.if_icmp .ne 7, 3) := by decide +kernel
theorem dX8_odds_116 : decode cX8_odds 116 = .ok (.iload_n 2, 1) := by decide +kernel
theorem dX8_odds_117 : decode cX8_odds 117 = .ok (.goto 7, 3) := by decide +kernel
theorem dX8_odds_120 : decode cX8_odds 120 = .ok (.bipush 10, 2) := by decide +kernel
theorem dX8_odds_122 : decode cX8_odds 122 = .ok (.iload_n 2, 1) := by decide +kernel
theorem dX8_odds_123 : decode cX8_odds 123 = .ok (.isub, 1) := by decide +kernel
theorem dX8_odds_124 : decode cX8_odds 124 = .ok (.imul, 1) := by decide +kernel
theorem dX8_odds_125 : decode cX8_odds 125 = .ok (.istore 7, 2) := by decide +kernel
theorem dX8_odds_127 : decode cX8_odds 127 = .ok (.iinc 8 1, 3) := by decide +kernel
theorem dX8_odds_130 : decode cX8_odds 130 = .ok (.goto (-38), 3) := by decide +kernel
theorem dX8_odds_133 : decode cX8_odds 133 = .ok (.aload_n 0, 1) := by decide +kernel
theorem dX8_odds_134 : decode cX8_odds 134 = .ok (.getfield 31, 3) := by decide +kernel
theorem dX8_odds_137 : decode cX8_odds 137 = .ok (.bipush 16, 2) := by decide +kernel
theorem dX8_odds_139 : decode cX8_odds 139 = .ok (.iload 6, 2) := by decide +kernel
theorem dX8_odds_141 : decode cX8_odds 141 = .ok (.iastore, 1) := by decide +kernel
theorem dX8_odds_142 : decode cX8_odds 142 = .ok (.iload 4, 2) := by decide +kernel
theorem dX8_odds_144 : decode cX8_odds 144 = .ok (.aload_n 0, 1) := by decide +kernel
theorem dX8_odds_145 : decode cX8_odds 145 = .ok (.aload_n 0, 1) := by decide +kernel
theorem dX8_odds_146 : decode cX8_odds 146 = .ok (.getfield 31, 3) := by decide +kernel
theorem dX8_odds_149 : decode cX8_odds 149 = .ok (.iload_n 1, 1) := by decide +kernel
theorem dX8_odds_150 : decode cX8_odds 150 = .ok (.invokevirtual 144, 3) := by decide +kernel
theorem dX8_odds_153 : decode cX8_odds 153 = .ok (.ifCond .eq 8, 3) := by decide +kernel
theorem dX8_odds_156 : decode cX8_odds 156 = .ok (.iload 7, 2) := by decide +kernel
theorem dX8_odds_158 : decode cX8_odds 158 = .ok (.goto 4, 3) := by decide +kernel
theorem dX8_odds_161 : decode cX8_odds 161 = .ok (.iconst 0, 1) := by decide +kernel
theorem dX8_odds_162 : decode cX8_odds 162 = .ok (.iadd, 1) := by decide +kernel
theorem dX8_odds_163 : decode cX8_odds 163 = .ok (.istore 4, 2) := by decide +kernel
theorem dX8_odds_165 : decode cX8_odds 165 = .ok (.iinc 6 1, 3) := by decide +kernel
theorem dX8_odds_168 : decode cX8_odds 168 = .ok (.goto (-95), 3) := by decide +kernel
theorem dX8_odds_171 : decode cX8_odds 171 = .ok (.iload 4, 2) := by decide +kernel
theorem dX8_odds_173 : decode cX8_odds 173 = .ok (.iload 5, 2) := by decide +kernel
theorem dX8_odds_175 : decode cX8_odds 175 = .ok (.invokestatic 166, 3) := by decide +kernel
theorem dX8_odds_178 : decode cX8_odds 178 = .ok (.istore 6, 2) := by decide +kernel
theorem dX8_odds_180 : decode cX8_odds 180 = .ok (.iload_n 3, 1) := by decide +kernel
theorem dX8_odds_181 : decode cX8_odds 181 = .ok (.ifCond .ne 11, 3) := by decide +kernel
theorem dX8_odds_184 : decode cX8_odds 184 = .ok (.iload 4, 2) := by decide +kernel
theorem dX8_odds_186 : decode cX8_odds 186 = .ok (.iload 6, 2) := by decide +kernel
theorem dX8_odds_188 : decode cX8_odds 188 = .ok (.idiv, 1) := by decide +kernel
theorem dX8_odds_189 : decode cX8_odds 189 = .ok (.goto 8, 3) := by decide +kernel
theorem dX8_odds_192 : decode cX8_odds 192 = .ok (.iload 5, 2) := by decide +kernel
theorem dX8_odds_194 : decode cX8_odds 194 = .ok (.iload 6, 2) := by decide +kernel
theorem dX8_odds_196 : decode cX8_odds 196 = .ok (.idiv, 1) := by decide +kernel
theorem dX8_odds_197 : decode cX8_odds 197 = .ok (.ireturn, 1) := by decide +kernel
set_option maxRecDepth 20000 in
theorem ggX8_rate_X8_in : GoodIn wsX8_rate wsX8_in := goodIn_r _ [15] (by decide +kernel) (by decide +kernel)
set_option maxRecDepth 20000 in
theorem gX8_rate_X8_in : GoodIn wsX8_rate (va_wsS RX8 54 yX8_in wsX8_in) := goodIn_app (goodIn_of _ (by decide +kernel)) ggX8_rate_X8_in
set_option maxRecDepth 20000 in
theorem ggX8_rate_X8_isThing : GoodIn wsX8_rate wsX8_isThing := goodIn_r _ [19, 20, 12, 13, 14, 15, 24, 25, 26, 27, 28, 29, 30, 31, 32, 33, 34, 35, 36, 37, 38, 39, 40, 41, 42, 43, 44, 45, 46, 47] (by decide +kernel) (by decide +kernel)
set_option maxRecDepth 20000 in
theorem gX8_rate_X8_isThing : GoodIn wsX8_rate (wsV RX8 131 RX8 yX8_isThing wsX8_isThing) := goodIn_app (goodIn_of _ (by decide +kernel)) ggX8_rate_X8_isThing
set_option maxRecDepth 20000 in
theorem ggX8_rate_X8_ones : GoodIn wsX8_rate wsX8_ones := goodIn_r _ [23] (by decide +kernel) (by decide +kernel)
set_option maxRecDepth 20000 in
theorem gX8_rate_X8_ones : GoodIn wsX8_rate (va_wsS RX8 154 yX8_ones wsX8_ones) := goodIn_app (goodIn_of _ (by decide +kernel)) ggX8_rate_X8_ones
theorem dX8_rate_0 : decode cX8_rate 0 = .ok (.aload_n 0, 1) := by decide +kernel
theorem dX8_rate_1 : decode cX8_rate 1 = .ok (.iconst 0, 1) := by decide +kernel
theorem dX8_rate_2 : decode cX8_rate 2 = .ok (.putfield 50, 3) := by decide +kernel
theorem dX8_rate_5 : decode cX8_rate 5 = .ok (.iload_n 1, 1) := by decide +kernel
theorem dX8_rate_6 : decode cX8_rate 6 = .ok (.iconst 0, 1) := by decide +kernel
theorem dX8_rate_7 : decode cX8_rate 7 = .ok (.iconst 5, 1) := by decide +kernel
theorem dX8_rate_8 : decode cX8_rate 8 = .ok (.invokestatic 54, 3) := by decide +kernel
theorem dX8_rate_11 : decode cX8_rate 11 = .ok (.ifCond .eq 11, 3) := by decide +kernel
theorem dX8_rate_14 : decode cX8_rate 14 = .ok (.aload_n 0, 1) := by decide +kernel
theorem dX8_rate_15 : decode cX8_rate 15 = .ok (.iload_n 2, 1) := by decide +kernel
theorem dX8_rate_16 : decode cX8_rate 16 = .ok (.invokevirtual 131, 3) := by decide +kernel
theorem dX8_rate_19 : decode cX8_rate 19 = .ok (.ifCond .ne 6, 3) := by decide +kernel
theorem dX8_rate_22 : decode cX8_rate 22 = .ok (.ldc 182, 2) := by decide +kernel
theorem dX8_rate_24 : decode cX8_rate 24 = .ok (.ireturn, 1) := by decide +kernel
theorem dX8_rate_25 : decode cX8_rate 25 = .ok (.aload_n 0, 1) := by decide +kernel
theorem dX8_rate_26 : decode cX8_rate 26 = .ok (.getfield 19, 3) := by decide +kernel
theorem dX8_rate_29 : decode cX8_rate 29 = .ok (.iload_n 2, 1) := by decide +kernel
theorem dX8_rate_30 : decode cX8_rate 30 = .ok (.iaload, 1) := by decide +kernel
theorem dX8_rate_31 : decode cX8_rate 31 = .ok (.aload_n 0, 1) := by decide +kernel
theorem dX8_rate_32 : decode cX8_rate 32 = .ok (.getfield 22, 3) := by decide +kernel
theorem dX8_rate_35 : decode cX8_rate 35 = .ok (.iload_n 2, 1) := by decide +kernel
theorem dX8_rate_36 : decode cX8_rate 36 = .ok (.iaload, 1) := by decide +kernel
theorem dX8_rate_37 : decode cX8_rate 37 = .ok (.invokestatic 154, 3) := by decide +kernel
theorem dX8_rate_40 : decode cX8_rate 40 = .ok (.iadd, 1) := by decide +kernel
theorem dX8_rate_41 : decode cX8_rate 41 = .ok (.istore_n 3, 1) := by decide +kernel
theorem dX8_rate_42 : decode cX8_rate 42 = .ok (.aload_n 0, 1) := by decide +kernel
theorem dX8_rate_43 : decode cX8_rate 43 = .ok (.getfield 19, 3) := by decide +kernel
theorem dX8_rate_46 : decode cX8_rate 46 = .ok (.iload_n 2, 1) := by decide +kernel
theorem dX8_rate_47 : decode cX8_rate 47 = .ok (.iaload, 1) := by decide +kernel
theorem dX8_rate_48 : decode cX8_rate 48 = .ok (.aload_n 0, 1) := by decide +kernel
theorem dX8_rate_49 : decode cX8_rate 49 = .ok (.getfield 28, 3) := by decide +kernel
theorem dX8_rate_52 : decode cX8_rate 52 = .ok (.bipush 7, 2) := by decide +kernel
theorem dX8_rate_54 : decode cX8_rate 54 = .ok (.iload_n 2, 1) := by decide +kernel
theorem dX8_rate_55 : decode cX8_rate 55 = .ok (.iadd, 1) := by decide +kernel
theorem dX8_rate_56 : decode cX8_rate 56 = .ok (.iaload, 1) := by decide +kernel
theorem dX8_rate_57 : decode cX8_rate 57 = .ok (.isub, 1) := by decide +kernel
theorem dX8_rate_58 : decode cX8_rate 58 = .ok (.istore 4, 2) := by decide +kernel
theorem dX8_rate_60 : decode cX8_rate 60 = .ok (.aload_n 0, 1) := by decide +kernel
theorem dX8_rate_61 : decode cX8_rate 61 = .ok (.dup, 1) := by decide +kernel
theorem dX8_rate_62 : decode cX8_rate 62 = .ok (.getfield 183, 3) := by decide +kernel
theorem dX8_rate_65 : decode cX8_rate 65 = .ok (.iload_n 1, 1) := by decide +kernel
theorem dX8_rate_66 : decode cX8_rate 66 = .ok (.ifCond .ne 7, 3) := by decide +kernel
theorem dX8_rate_69 : decode cX8_rate 69 = .ok (.lconst 1, 1) := by decide +kernel
theorem dX8_rate_70 : decode cX8_rate 70 = .ok (.goto 50, 3) := by decide +kernel
theorem dX8_rate_73 : decode cX8_rate 73 = .ok (.iload_n 1, 1) := by decide +kernel
theorem dX8_rate_74 : decode cX8_rate 74 = .ok (.iconst 1, 1) := by decide +kernel
theorem dX8_rate_75 : decode cX8_rate 75 = .ok (.if_icmp .ne 9, 3) := by decide +kernel
theorem dX8_rate_78 : decode cX8_rate 78 = .ok (.ldc2_w 187, 3) := by decide +kernel
theorem dX8_rate_81 : decode cX8_rate 81 = .ok (.goto 39, 3) := by decide +kernel
theorem dX8_rate_84 : decode cX8_rate 84 = .ok (.iload_n 1, 1) := by decide +kernel
theorem dX8_rate_85 : decode cX8_rate 85 = .ok (.iconst 2, 1) := by decide +kernel
theorem dX8_rate_86 : decode cX8_rate 86 = .ok (.if_icmp .ne 9, 3) := by decide +kernel
theorem dX8_rate_89 : decode cX8_rate 89 = .ok (.ldc2_w 189, 3) := by decide +kernel
theorem dX8_rate_92 : decode cX8_rate 92 = .ok (.goto 28, 3) := by decide +kernel
theorem dX8_rate_95 : decode cX8_rate 95 = .ok (.iload_n 1, 1) := by decide +kernel
theorem dX8_rate_96 : decode cX8_rate 96 = .ok (.iconst 3, 1) := by decide +kernel
theorem dX8_rate_97 : decode cX8_rate 97 = .ok (.if_icmp .ne 9, 3) := by decide +kernel
theorem dX8_rate_100 : decode cX8_rate 100 = .ok (.ldc2_w 191, 3) := by decide +kernel
theorem dX8_rate_103 : decode cX8_rate 103 = .ok (.goto 17, 3) := by decide +kernel
theorem dX8_rate_106 : decode cX8_rate 106 = .ok (.iload_n 1, 1) := by decide +kernel
theorem dX8_rate_107 : decode cX8_rate 107 = .ok (.iconst 4, 1) := by decide +kernel
theorem dX8_rate_108 : decode cX8_rate 108 = .ok (.if_icmp .ne 9, 3) := by decide +kernel
theorem dX8_rate_111 : decode cX8_rate 111 = .ok (.ldc2_w 193, 3) := by decide +kernel
theorem dX8_rate_114 : decode cX8_rate 114 = .ok (.goto 6, 3) := by decide +kernel
theorem dX8_rate_117 : decode cX8_rate 117 = .ok (.ldc2_w 195, 3) := by decide +kernel
theorem dX8_rate_120 : decode cX8_rate 120 = .ok (.ladd, 1) := by decide +kernel
theorem dX8_rate_121 : decode cX8_rate 121 = .ok (.putfield 183, 3) := by decide +kernel
theorem dX8_rate_124 : decode cX8_rate 124 = .ok (.iload_n 1, 1) := by decide +kernel
theorem dX8_rate_125 : decode cX8_rate 125 = .ok (.ifCond .ne 12, 3) := by decide +kernel
theorem dX8_rate_128 : decode cX8_rate 128 = .ok (.aload_n 0, 1) := by decide +kernel
theorem dX8_rate_129 : decode cX8_rate 129 = .ok (.getfield 19, 3) := by decide +kernel
theorem dX8_rate_132 : decode cX8_rate 132 = .ok (.iload_n 2, 1) := by decide +kernel
theorem dX8_rate_133 : decode cX8_rate 133 = .ok (.iaload, 1) := by decide +kernel
theorem dX8_rate_134 : decode cX8_rate 134 = .ok (.goto 59, 3) := by decide +kernel
theorem dX8_rate_137 : decode cX8_rate 137 = .ok (.iload_n 1, 1) := by decide +kernel
theorem dX8_rate_138 : decode cX8_rate 138 = .ok (.iconst 1, 1) := by decide +kernel
theorem dX8_rate_139 : decode cX8_rate 139 = .ok (.if_icmp .ne 7, 3) := by decide +kernel
theorem dX8_rate_142 : decode cX8_rate 142 = .ok (.iload_n 3, 1) := by decide +kernel
theorem dX8_rate_143 : decode cX8_rate 143 = .ok (.goto 50, 3) := by decide +kernel
theorem dX8_rate_146 : decode cX8_rate 146 = .ok (.iload_n 1, 1) := by decide +kernel
theorem dX8_rate_147 : decode cX8_rate 147 = .ok (.iconst 2, 1) := by decide +kernel
theorem dX8_rate_148 : decode cX8_rate 148 = .ok (.if_icmp .ne 8, 3) := by decide +kernel
theorem dX8_rate_151 : decode cX8_rate 151 = .ok (.iload 4, 2) := by decide +kernel
theorem dX8_rate_153 : decode cX8_rate 153 = .ok (.goto 40, 3) := by decide +kernel
theorem dX8_rate_156 : decode cX8_rate 156 = .ok (.iload_n 1, 1) := by decide +kernel
theorem dX8_rate_157 : decode cX8_rate 157 = .ok (.iconst 3, 1) := by decide +kernel
theorem dX8_rate_158 : decode cX8_rate 158 = .ok (.if_icmp .ne 9, 3) := by decide +kernel
theorem dX8_rate_161 : decode cX8_rate 161 = .ok (.iconst 2, 1) := by decide +kernel
theorem dX8_rate_162 : decode cX8_rate 162 = .ok (.iload_n 3, 1) := by decide +kernel
theorem dX8_rate_163 : decode cX8_rate 163 = .ok (.imul, 1) := by decide +kernel
theorem dX8_rate_164 : decode cX8_rate 164 = .ok (.goto 29, 3) := by decide +kernel
theorem dX8_rate_167 : decode cX8_rate 167 = .ok (.iload_n 1, 1) := by decide +kernel
theorem dX8_rate_168 : decode cX8_rate 168 = .ok (.iconst 4, 1) := by decide +kernel
theorem dX8_rate_169 : decode cX8_rate 169 = .ok (.if_icmp .ne 10, 3) := by decide +kernel
theorem dX8_rate_172 : decode cX8_rate 172 = .ok (.iload 4, 2) := by decide +kernel
theorem dX8_rate_174 : decode cX8_rate 174 = .ok (.iload_n 2, 1) := by decide +kernel
theorem dX8_rate_175 : decode cX8_rate 175 = .ok (.iadd, 1) := by decide +kernel
theorem dX8_rate_176 : decode cX8_rate 176 = .ok (.goto 17, 3) := by decide +kernel
theorem dX8_rate_179 : decode cX8_rate 179 = .ok (.aload_n 0, 1) := by decide +kernel
theorem dX8_rate_180 : decode cX8_rate 180 = .ok (.getfield 19, 3) := by decide +kernel
theorem dX8_rate_183 : decode cX8_rate 183 = .ok (.iload_n 2, 1) := by decide +kernel
theorem dX8_rate_184 : decode cX8_rate 184 = .ok (.iaload, 1) := by decide +kernel
theorem dX8_rate_185 : decode cX8_rate 185 = .ok (.aload_n 0, 1) := by decide +kernel
theorem dX8_rate_186 : decode cX8_rate 186 = .ok (.getfield 28, 3) := by decide +kernel
theorem dX8_rate_189 : decode cX8_rate 189 = .ok (.bipush 17, 2) := by decide +kernel
theorem dX8_rate_191 : decode cX8_rate 191 = .ok (.iaload, 1) := by decide +kernel
theorem dX8_rate_192 : decode cX8_rate 192 = .ok (.iadd, 1) := by decide +kernel
theorem dX8_rate_193 : decode cX8_rate 193 = .ok (.ireturn, 1) := by decide +kernel
set_option maxRecDepth 20000 in
theorem ggX8_keep_X8_in : GoodIn wsX8_keep wsX8_in := goodIn_r _ [8] (by decide +kernel) (by decide +kernel)
set_option maxRecDepth 20000 in
theorem gX8_keep_X8_in : GoodIn wsX8_keep (va_wsS RX8 54 yX8_in wsX8_in) := goodIn_app (goodIn_of _ (by decide +kernel)) ggX8_keep_X8_in
theorem dX8_keep_0 : decode cX8_keep 0 = .ok (.aload_n 0, 1) := by decide +kernel
theorem dX8_keep_1 : decode cX8_keep 1 = .ok (.iconst 0, 1) := by decide +kernel
theorem dX8_keep_2 : decode cX8_keep 2 = .ok (.putfield 50, 3) := by decide +kernel
theorem dX8_keep_5 : decode cX8_keep 5 = .ok (.iload_n 1, 1) := by decide +kernel
theorem dX8_keep_6 : decode cX8_keep 6 = .ok (.iconst 0, 1) := by decide +kernel
theorem dX8_keep_7 : decode cX8_keep 7 = .ok (.iconst 1, 1) := by decide +kernel
theorem dX8_keep_8 : decode cX8_keep 8 = .ok (.invokestatic 54, 3) := by decide +kernel
theorem dX8_keep_11 : decode cX8_keep 11 = .ok (.ifCond .ne 5, 3) := by decide +kernel
theorem dX8_keep_14 : decode cX8_keep 14 = .ok (.iconst (-1), 1) := by decide +kernel
theorem dX8_keep_15 : decode cX8_keep 15 = .ok (.ireturn, 1) := by decide +kernel
theorem dX8_keep_16 : decode cX8_keep 16 = .ok (.iconst 0, 1) := by decide +kernel
theorem dX8_keep_17 : decode cX8_keep 17 = .ok (.istore_n 2, 1) := by decide +kernel
theorem dX8_keep_18 : decode cX8_keep 18 = .ok (.iload_n 2, 1) := by decide +kernel
theorem dX8_keep_19 : decode cX8_keep 19 = .ok (.bipush 19, 2) := by decide +kernel
theorem dX8_keep_21 : decode cX8_keep 21 = .ok (.if_icmp .ge 26, 3) := by decide +kernel
theorem dX8_keep_24 : decode cX8_keep 24 = .ok (.aload_n 0, 1) := by decide +kernel
theorem dX8_keep_25 : decode cX8_keep 25 = .ok (.getfield 34, 3) := by decide +kernel
theorem dX8_keep_28 : decode cX8_keep 28 = .ok (.bipush 19, 2) := by decide +kernel
theorem dX8_keep_30 : decode cX8_keep 30 = .ok (.iload_n 1, 1) := by decide +kernel
theorem dX8_keep_31 : decode cX8_keep 31 = .ok (.imul, 1) := by decide +kernel
theorem dX8_keep_32 : decode cX8_keep 32 = .ok (.iload_n 2, 1) := by decide +kernel
theorem dX8_keep_33 : decode cX8_keep 33 = .ok (.iadd, 1) := by decide +kernel
theorem dX8_keep_34 : decode cX8_keep 34 = .ok (.aload_n 0, 1) := by decide +kernel
theorem dX8_keep_35 : decode cX8_keep 35 = .ok (.getfield 28, 3) := by decide +kernel
theorem dX8_keep_38 : decode cX8_keep 38 = .ok (.iload_n 2, 1) := by decide +kernel
theorem dX8_keep_39 : decode cX8_keep 39 = .ok (.iaload, 1) := by decide +kernel
theorem dX8_keep_40 : decode cX8_keep 40 = .ok (.iastore, 1) := by decide +kernel
theorem dX8_keep_41 : decode cX8_keep 41 = .ok (.iinc 2 1, 3) := by decide +kernel
theorem dX8_keep_44 : decode cX8_keep 44 = .ok (.goto (-26), 3) := by decide +kernel
theorem dX8_keep_47 : decode cX8_keep 47 = .ok (.aload_n 0, 1) := by decide +kernel
theorem dX8_keep_48 : decode cX8_keep 48 = .ok (.getfield 37, 3) := by decide +kernel
theorem dX8_keep_51 : decode cX8_keep 51 = .ok (.iload_n 1, 1) := by decide +kernel
theorem dX8_keep_52 : decode cX8_keep 52 = .ok (.iconst 1, 1) := by decide +kernel
theorem dX8_keep_53 : decode cX8_keep 53 = .ok (.bastore, 1) := by decide +kernel
theorem dX8_keep_54 : decode cX8_keep 54 = .ok (.aload_n 0, 1) := by decide +kernel
theorem dX8_keep_55 : decode cX8_keep 55 = .ok (.getfield 28, 3) := by decide +kernel
theorem dX8_keep_58 : decode cX8_keep 58 = .ok (.bipush 17, 2) := by decide +kernel
theorem dX8_keep_60 : decode cX8_keep 60 = .ok (.iaload, 1) := by decide +kernel
theorem dX8_keep_61 : decode cX8_keep 61 = .ok (.ireturn, 1) := by decide +kernel
set_option maxRecDepth 20000 in
theorem ggX8_back_X8_in : GoodIn wsX8_back wsX8_in := goodIn_r _ [9] (by decide +kernel) (by decide +kernel)
set_option maxRecDepth 20000 in
theorem gX8_back_X8_in : GoodIn wsX8_back (va_wsS RX8 54 yX8_in wsX8_in) := goodIn_app (goodIn_of _ (by decide +kernel)) ggX8_back_X8_in
theorem dX8_back_0 : decode cX8_back 0 = .ok (.aload_n 0, 1) := by decide +kernel
theorem dX8_back_1 : decode cX8_back 1 = .ok (.iconst 0, 1) := by decide +kernel
theorem dX8_back_2 : decode cX8_back 2 = .ok (.putfield 50, 3) := by decide +kernel
theorem dX8_back_5 : decode cX8_back 5 = .ok (.iload_n 1, 1) := by decide +kernel
theorem dX8_back_6 : decode cX8_back 6 = .ok (.iconst 0, 1) := by decide +kernel
theorem dX8_back_7 : decode cX8_back 7 = .ok (.iconst 1, 1) := by decide +kernel
theorem dX8_back_8 : decode cX8_back 8 = .ok (.invokestatic 54, 3) := by decide +kernel
theorem dX8_back_11 : decode cX8_back 11 = .ok (.ifCond .ne 5, 3) := by decide +kernel
theorem dX8_back_14 : decode cX8_back 14 = .ok (.iconst (-1), 1) := by decide +kernel
theorem dX8_back_15 : decode cX8_back 15 = .ok (.ireturn, 1) := by decide +kernel
theorem dX8_back_16 : decode cX8_back 16 = .ok (.aload_n 0, 1) := by decide +kernel
theorem dX8_back_17 : decode cX8_back 17 = .ok (.getfield 37, 3) := by decide +kernel
theorem dX8_back_20 : decode cX8_back 20 = .ok (.iload_n 1, 1) := by decide +kernel
theorem dX8_back_21 : decode cX8_back 21 = .ok (.baload, 1) := by decide +kernel
theorem dX8_back_22 : decode cX8_back 22 = .ok (.ifCond .ne 6, 3) := by decide +kernel
theorem dX8_back_25 : decode cX8_back 25 = .ok (.bipush (-2), 2) := by decide +kernel
theorem dX8_back_27 : decode cX8_back 27 = .ok (.ireturn, 1) := by decide +kernel
theorem dX8_back_28 : decode cX8_back 28 = .ok (.iconst 0, 1) := by decide +kernel
theorem dX8_back_29 : decode cX8_back 29 = .ok (.istore_n 2, 1) := by decide +kernel
theorem dX8_back_30 : decode cX8_back 30 = .ok (.iload_n 2, 1) := by decide +kernel
theorem dX8_back_31 : decode cX8_back 31 = .ok (.bipush 19, 2) := by decide +kernel
theorem dX8_back_33 : decode cX8_back 33 = .ok (.if_icmp .ge 26, 3) := by decide +kernel
theorem dX8_back_36 : decode cX8_back 36 = .ok (.aload_n 0, 1) := by decide +kernel
theorem dX8_back_37 : decode cX8_back 37 = .ok (.getfield 28, 3) := by decide +kernel
theorem dX8_back_40 : decode cX8_back 40 = .ok (.iload_n 2, 1) := by decide +kernel
theorem dX8_back_41 : decode cX8_back 41 = .ok (.aload_n 0, 1) := by decide +kernel
theorem dX8_back_42 : decode cX8_back 42 = .ok (.getfield 34, 3) := by decide +kernel
theorem dX8_back_45 : decode cX8_back 45 = .ok (.bipush 19, 2) := by decide +kernel
theorem dX8_back_47 : decode cX8_back 47 = .ok (.iload_n 1, 1) := by decide +kernel
theorem dX8_back_48 : decode cX8_back 48 = .ok (.imul, 1) := by decide +kernel
theorem dX8_back_49 : decode cX8_back 49 = .ok (.iload_n 2, 1) := by decide +kernel
theorem dX8_back_50 : decode cX8_back 50 = .ok (.iadd, 1) := by decide +kernel
theorem dX8_back_51 : decode cX8_back 51 = .ok (.iaload, 1) := by decide +kernel
theorem dX8_back_52 : decode cX8_back 52 = .ok (.iastore, 1) := by decide +kernel
theorem dX8_back_53 : decode cX8_back 53 = .ok (.iinc 2 1, 3) := by decide +kernel
theorem dX8_back_56 : decode cX8_back 56 = .ok (.goto (-26), 3) := by decide +kernel
theorem dX8_back_59 : decode cX8_back 59 = .ok (.aload_n 0, 1) := by decide +kernel
theorem dX8_back_60 : decode cX8_back 60 = .ok (.iconst 0, 1) := by decide +kernel
theorem dX8_back_61 : decode cX8_back 61 = .ok (.putfield 109, 3) := by decide +kernel
theorem dX8_back_64 : decode cX8_back 64 = .ok (.aload_n 0, 1) := by decide +kernel
theorem dX8_back_65 : decode cX8_back 65 = .ok (.getfield 28, 3) := by decide +kernel
theorem dX8_back_68 : decode cX8_back 68 = .ok (.bipush 17, 2) := by decide +kernel
theorem dX8_back_70 : decode cX8_back 70 = .ok (.iaload, 1) := by decide +kernel
theorem dX8_back_71 : decode cX8_back 71 = .ok (.ireturn, 1) := by decide +kernel
set_option maxRecDepth 20000 in
theorem ggX8_count_X8_in : GoodIn wsX8_count wsX8_in := goodIn_r _ [8] (by decide +kernel) (by decide +kernel)
set_option maxRecDepth 20000 in
theorem gX8_count_X8_in : GoodIn wsX8_count (va_wsS RX8 54 yX8_in wsX8_in) := goodIn_app (goodIn_of _ (by decide +kernel)) ggX8_count_X8_in
theorem dX8_count_0 : decode cX8_count 0 = .ok (.aload_n 0, 1) := by decide +kernel
theorem dX8_count_1 : decode cX8_count 1 = .ok (.iconst 0, 1) := by decide +kernel
theorem dX8_count_2 : decode cX8_count 2 = .ok (.putfield 50, 3) := by decide +kernel
theorem dX8_count_5 : decode cX8_count 5 = .ok (.iload_n 1, 1) := by decide +kernel
theorem dX8_count_6 : decode cX8_count 6 = .ok (.iconst 0, 1) := by decide +kernel
theorem dX8_count_7 : decode cX8_count 7 = .ok (.iconst 2, 1) := by decide +kernel
theorem dX8_count_8 : decode cX8_count 8 = .ok (.invokestatic 54, 3) := by decide +kernel
theorem dX8_count_11 : decode cX8_count 11 = .ok (.ifCond .eq 12, 3) := by decide +kernel
theorem dX8_count_14 : decode cX8_count 14 = .ok (.aload_n 0, 1) := by decide +kernel
theorem dX8_count_15 : decode cX8_count 15 = .ok (.getfield 13, 3) := by decide +kernel
theorem dX8_count_18 : decode cX8_count 18 = .ok (.iload_n 1, 1) := by decide +kernel
theorem dX8_count_19 : decode cX8_count 19 = .ok (.iaload, 1) := by decide +kernel
theorem dX8_count_20 : decode cX8_count 20 = .ok (.goto 28, 3) := by decide +kernel
theorem dX8_count_23 : decode cX8_count 23 = .ok (.iload_n 1, 1) := by decide +kernel
theorem dX8_count_24 : decode cX8_count 24 = .ok (.iconst 3, 1) := by decide +kernel
theorem dX8_count_25 : decode cX8_count 25 = .ok (.if_icmp .ne 10, 3) := by decide +kernel
theorem dX8_count_28 : decode cX8_count 28 = .ok (.aload_n 0, 1) := by decide +kernel
theorem dX8_count_29 : decode cX8_count 29 = .ok (.getfield 106, 3) := by decide +kernel
theorem dX8_count_32 : decode cX8_count 32 = .ok (.goto 16, 3) := by decide +kernel
theorem dX8_count_35 : decode cX8_count 35 = .ok (.iload_n 1, 1) := by decide +kernel
theorem dX8_count_36 : decode cX8_count 36 = .ok (.iconst 4, 1) := by decide +kernel
theorem dX8_count_37 : decode cX8_count 37 = .ok (.if_icmp .ne 10, 3) := by decide +kernel
theorem dX8_count_40 : decode cX8_count 40 = .ok (.aload_n 0, 1) := by decide +kernel
theorem dX8_count_41 : decode cX8_count 41 = .ok (.getfield 58, 3) := by decide +kernel
theorem dX8_count_44 : decode cX8_count 44 = .ok (.goto 4, 3) := by decide +kernel
theorem dX8_count_47 : decode cX8_count 47 = .ok (.iconst (-1), 1) := by decide +kernel
theorem dX8_count_48 : decode cX8_count 48 = .ok (.ireturn, 1) := by decide +kernel
theorem dX8_trace_0 : decode cX8_trace 0 = .ok (.aload_n 0, 1) := by decide +kernel
theorem dX8_trace_1 : decode cX8_trace 1 = .ok (.iconst 0, 1) := by decide +kernel
theorem dX8_trace_2 : decode cX8_trace 2 = .ok (.putfield 50, 3) := by decide +kernel
theorem dX8_trace_5 : decode cX8_trace 5 = .ok (.aload_n 0, 1) := by decide +kernel
theorem dX8_trace_6 : decode cX8_trace 6 = .ok (.getfield 183, 3) := by decide +kernel
theorem dX8_trace_9 : decode cX8_trace 9 = .ok (.lreturn, 1) := by decide +kernel
