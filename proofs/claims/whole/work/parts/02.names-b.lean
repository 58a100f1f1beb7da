theorem dX1_write_25 : decode cX1_write 25 = .ok (.getfield 19, 3) := by decide +kernel
theorem dX1_write_28 : decode cX1_write 28 = .ok (.iload_n 2, 1) := by decide +kernel
theorem dX1_write_29 : decode cX1_write 29 = .ok (.bastore, 1) := by decide +kernel
theorem dX1_write_30 : decode cX1_write 30 = .ok (.aload_n 0, 1) := by decide +kernel
theorem dX1_write_31 : decode cX1_write 31 = .ok (.dup, 1) := by decide +kernel
theorem dX1_write_32 : decode cX1_write 32 = .ok (.getfield 19, 3) := by decide +kernel
theorem dX1_write_35 : decode cX1_write 35 = .ok (.iconst 1, 1) := by decide +kernel
theorem dX1_write_36 : decode cX1_write 36 = .ok (.iadd, 1) := by decide +kernel
theorem dX1_write_37 : decode cX1_write 37 = .ok (.putfield 19, 3) := by decide +kernel
theorem dX1_write_40 : decode cX1_write 40 = .ok (.return_, 1) := by decide +kernel
theorem dX1_tearUp_0 : decode cX1_tearUp 0 = .ok (.aload_n 0, 1) := by decide +kernel
theorem dX1_tearUp_1 : decode cX1_tearUp 1 = .ok (.iconst 0, 1) := by decide +kernel
theorem dX1_tearUp_2 : decode cX1_tearUp 2 = .ok (.putfield 19, 3) := by decide +kernel
theorem dX1_tearUp_5 : decode cX1_tearUp 5 = .ok (.return_, 1) := by decide +kernel
set_option maxRecDepth 20000 in
theorem ggX1_isSoIfFor_X6_yesIfFor : GoodIn wsX1_isSoIfFor wsX6_yesIfFor := goodIn_r _ [9, 10, 11, 12, 13, 14, 15, 16, 17, 8, 18, 19, 20, 21, 35, 36, 37, 38, 39, 40, 41, 42, 43, 44, 45, 46, 47, 48, 49, 50] (by decide +kernel) (by decide +kernel)
set_option maxRecDepth 20000 in
theorem gX1_isSoIfFor_X6_yesIfFor : GoodIn wsX1_isSoIfFor (wsV RX1 27 RX6 yX6_yesIfFor wsX6_yesIfFor) := goodIn_app (goodIn_of _ (by decide +kernel)) ggX1_isSoIfFor_X6_yesIfFor
set_option maxRecDepth 20000 in
theorem ggX1_isSoIfFor_X6_passesBy : GoodIn wsX1_isSoIfFor wsX6_passesBy := goodIn_r _ [25, 26, 27, 28, 8, 29, 19, 20, 30, 12, 13, 14, 35, 36, 44, 45, 46, 47, 48, 49, 50] (by decide +kernel) (by decide +kernel)
set_option maxRecDepth 20000 in
theorem gX1_isSoIfFor_X6_passesBy : GoodIn wsX1_isSoIfFor (wsV RX1 33 RX6 yX6_passesBy wsX6_passesBy) := goodIn_app (goodIn_of _ (by decide +kernel)) ggX1_isSoIfFor_X6_passesBy
theorem dX1_isSoIfFor_0 : decode cX1_isSoIfFor 0 = .ok (.iconst 0, 1) := by decide +kernel
theorem dX1_isSoIfFor_1 : decode cX1_isSoIfFor 1 = .ok (.istore 4, 2) := by decide +kernel
theorem dX1_isSoIfFor_3 : decode cX1_isSoIfFor 3 = .ok (.iload 4, 2) := by decide +kernel
theorem dX1_isSoIfFor_5 : decode cX1_isSoIfFor 5 = .ok (.aload_n 0, 1) := by decide +kernel
theorem dX1_isSoIfFor_6 : decode cX1_isSoIfFor 6 = .ok (.getfield 19, 3) := by decide +kernel
theorem dX1_isSoIfFor_9 : decode cX1_isSoIfFor 9 = .ok (.if_icmp .ge 45, 3) := by decide +kernel
theorem dX1_isSoIfFor_12 : decode cX1_isSoIfFor 12 = .ok (.aload_n 0, 1) := by decide +kernel
theorem dX1_isSoIfFor_13 : decode cX1_isSoIfFor 13 = .ok (.getfield 23, 3) := by decide +kernel
theorem dX1_isSoIfFor_16 : decode cX1_isSoIfFor 16 = .ok (.iload_n 3, 1) := by decide +kernel
theorem dX1_isSoIfFor_17 : decode cX1_isSoIfFor 17 = .ok (.aload_n 0, 1) := by decide +kernel
theorem dX1_isSoIfFor_18 : decode cX1_isSoIfFor 18 = .ok (.getfield 23, 3) := by decide +kernel
theorem dX1_isSoIfFor_21 : decode cX1_isSoIfFor 21 = .ok (.aload_n 0, 1) := by decide +kernel
theorem dX1_isSoIfFor_22 : decode cX1_isSoIfFor 22 = .ok (.getfield 9, 3) := by decide +kernel
theorem dX1_isSoIfFor_25 : decode cX1_isSoIfFor 25 = .ok (.iload 4, 2) := by decide +kernel
theorem dX1_isSoIfFor_27 : decode cX1_isSoIfFor 27 = .ok (.iaload, 1) := by decide +kernel
theorem dX1_isSoIfFor_28 : decode cX1_isSoIfFor 28 = .ok (.iload_n 1, 1) := by decide +kernel
theorem dX1_isSoIfFor_29 : decode cX1_isSoIfFor 29 = .ok (.iload_n 2, 1) := by decide +kernel
theorem dX1_isSoIfFor_30 : decode cX1_isSoIfFor 30 = .ok (.invokevirtual 27, 3) := by decide +kernel
theorem dX1_isSoIfFor_33 : decode cX1_isSoIfFor 33 = .ok (.invokevirtual 33, 3) := by decide +kernel
theorem dX1_isSoIfFor_36 : decode cX1_isSoIfFor 36 = .ok (.aload_n 0, 1) := by decide +kernel
theorem dX1_isSoIfFor_37 : decode cX1_isSoIfFor 37 = .ok (.getfield 15, 3) := by decide +kernel
theorem dX1_isSoIfFor_40 : decode cX1_isSoIfFor 40 = .ok (.iload 4, 2) := by decide +kernel
theorem dX1_isSoIfFor_42 : decode cX1_isSoIfFor 42 = .ok (.baload, 1) := by decide +kernel
theorem dX1_isSoIfFor_43 : decode cX1_isSoIfFor 43 = .ok (.if_icmp .eq 5, 3) := by decide +kernel
theorem dX1_isSoIfFor_46 : decode cX1_isSoIfFor 46 = .ok (.iconst 0, 1) := by decide +kernel
theorem dX1_isSoIfFor_47 : decode cX1_isSoIfFor 47 = .ok (.ireturn, 1) := by decide +kernel
theorem dX1_isSoIfFor_48 : decode cX1_isSoIfFor 48 = .ok (.iinc 4 1, 3) := by decide +kernel
theorem dX1_isSoIfFor_51 : decode cX1_isSoIfFor 51 = .ok (.goto (-48), 3) := by decide +kernel
theorem dX1_isSoIfFor_54 : decode cX1_isSoIfFor 54 = .ok (.iconst 1, 1) := by decide +kernel
theorem dX1_isSoIfFor_55 : decode cX1_isSoIfFor 55 = .ok (.ireturn, 1) := by decide +kernel
set_option maxRecDepth 20000 in
theorem ggX1_isSoIfSick_X6_voicesIfSick : GoodIn wsX1_isSoIfSick wsX6_voicesIfSick := goodIn_r _ [9, 10, 11, 12, 8, 13, 14, 15, 16, 17, 18, 19, 20, 21, 22, 23, 24, 25, 26, 27, 47, 48, 49, 50, 51, 52, 53, 54, 55, 56, 57, 58, 59, 60, 61, 62] (by decide +kernel) (by decide +kernel)
set_option maxRecDepth 20000 in
theorem gX1_isSoIfSick_X6_voicesIfSick : GoodIn wsX1_isSoIfSick (wsV RX1 37 RX6 yX6_voicesIfSick wsX6_voicesIfSick) := goodIn_app (goodIn_of _ (by decide +kernel)) ggX1_isSoIfSick_X6_voicesIfSick
set_option maxRecDepth 20000 in
theorem ggX1_isSoIfSick_X6_yesOf : GoodIn wsX1_isSoIfSick wsX6_yesOf := goodIn_r _ [31, 14, 15, 32, 17, 33, 25, 26, 27, 47, 48, 49, 50, 51, 52, 53, 54, 55, 56, 57, 58, 59, 60, 61, 62] (by decide +kernel) (by decide +kernel)
set_option maxRecDepth 20000 in
theorem gX1_isSoIfSick_X6_yesOf : GoodIn wsX1_isSoIfSick (wsV RX1 41 RX6 yX6_yesOf wsX6_yesOf) := goodIn_app (goodIn_of _ (by decide +kernel)) ggX1_isSoIfSick_X6_yesOf
set_option maxRecDepth 20000 in
theorem ggX1_isSoIfSick_X6_passesBy : GoodIn wsX1_isSoIfSick wsX6_passesBy := goodIn_r _ [37, 38, 39, 40, 8, 41, 14, 15, 42, 25, 26, 27, 47, 48, 49, 50, 51, 52, 53, 54, 55] (by decide +kernel) (by decide +kernel)
set_option maxRecDepth 20000 in
theorem gX1_isSoIfSick_X6_passesBy : GoodIn wsX1_isSoIfSick (wsV RX1 33 RX6 yX6_passesBy wsX6_passesBy) := goodIn_app (goodIn_of _ (by decide +kernel)) ggX1_isSoIfSick_X6_passesBy
theorem dX1_isSoIfSick_0 : decode cX1_isSoIfSick 0 = .ok (.aload_n 0, 1) := by decide +kernel
theorem dX1_isSoIfSick_1 : decode cX1_isSoIfSick 1 = .ok (.getfield 23, 3) := by decide +kernel
theorem dX1_isSoIfSick_4 : decode cX1_isSoIfSick 4 = .ok (.iload_n 1, 1) := by decide +kernel
theorem dX1_isSoIfSick_5 : decode cX1_isSoIfSick 5 = .ok (.invokevirtual 37, 3) := by decide +kernel
theorem dX1_isSoIfSick_8 : decode cX1_isSoIfSick 8 = .ok (.istore_n 2, 1) := by decide +kernel
theorem dX1_isSoIfSick_9 : decode cX1_isSoIfSick 9 = .ok (.iconst 0, 1) := by decide +kernel
theorem dX1_isSoIfSick_10 : decode cX1_isSoIfSick 10 = .ok (.istore_n 3, 1) := by decide +kernel
theorem dX1_isSoIfSick_11 : decode cX1_isSoIfSick 11 = .ok (.iload_n 3, 1) := by decide +kernel
theorem dX1_isSoIfSick_12 : decode cX1_isSoIfSick 12 = .ok (.aload_n 0, 1) := by decide +kernel
theorem dX1_isSoIfSick_13 : decode cX1_isSoIfSick 13 = .ok (.getfield 19, 3) := by decide +kernel
theorem dX1_isSoIfSick_16 : decode cX1_isSoIfSick 16 = .ok (.if_icmp .ge 41, 3) := by decide +kernel
theorem dX1_isSoIfSick_19 : decode cX1_isSoIfSick 19 = .ok (.aload_n 0, 1) := by decide +kernel
theorem dX1_isSoIfSick_20 : decode cX1_isSoIfSick 20 = .ok (.getfield 23, 3) := by decide +kernel
theorem dX1_isSoIfSick_23 : decode cX1_isSoIfSick 23 = .ok (.iload_n 2, 1) := by decide +kernel
theorem dX1_isSoIfSick_24 : decode cX1_isSoIfSick 24 = .ok (.aload_n 0, 1) := by decide +kernel
theorem dX1_isSoIfSick_25 : decode cX1_isSoIfSick 25 = .ok (.getfield 23, 3) := by decide +kernel
theorem dX1_isSoIfSick_28 : decode cX1_isSoIfSick 28 = .ok (.aload_n 0, 1) := by decide +kernel
theorem dX1_isSoIfSick_29 : decode cX1_isSoIfSick 29 = .ok (.getfield 9, 3) := by decide +kernel
theorem dX1_isSoIfSick_32 : decode cX1_isSoIfSick 32 = .ok (.iload_n 3, 1) := by decide +kernel
theorem dX1_isSoIfSick_33 : decode cX1_isSoIfSick 33 = .ok (.iaload, 1) := by decide +kernel
theorem dX1_isSoIfSick_34 : decode cX1_isSoIfSick 34 = .ok (.invokevirtual 41, 3) := by decide +kernel
theorem dX1_isSoIfSick_37 : decode cX1_isSoIfSick 37 = .ok (.invokevirtual 33, 3) := by decide +kernel
theorem dX1_isSoIfSick_40 : decode cX1_isSoIfSick 40 = .ok (.aload_n 0, 1) := by decide +kernel
theorem dX1_isSoIfSick_41 : decode cX1_isSoIfSick 41 = .ok (.getfield 15, 3) := by decide +kernel
theorem dX1_isSoIfSick_44 : decode cX1_isSoIfSick 44 = .ok (.iload_n 3, 1) := by decide +kernel
theorem dX1_isSoIfSick_45 : decode cX1_isSoIfSick 45 = .ok (.baload, 1) := by decide +kernel
theorem dX1_isSoIfSick_46 : decode cX1_isSoIfSick 46 = .ok (.if_icmp .eq 5, 3) := by decide +kernel
theorem dX1_isSoIfSick_49 : decode cX1_isSoIfSick 49 = .ok (.iconst 0, 1) := by decide +kernel
theorem dX1_isSoIfSick_50 : decode cX1_isSoIfSick 50 = .ok (.ireturn, 1) := by decide +kernel
theorem dX1_isSoIfSick_51 : decode cX1_isSoIfSick 51 = .ok (.iinc 3 1, 3) := by decide +kernel
theorem dX1_isSoIfSick_54 : decode cX1_isSoIfSick 54 = .ok (.goto (-43), 3) := by decide +kernel
theorem dX1_isSoIfSick_57 : decode cX1_isSoIfSick 57 = .ok (.iconst 1, 1) := by decide +kernel
theorem dX1_isSoIfSick_58 : decode cX1_isSoIfSick 58 = .ok (.ireturn, 1) := by decide +kernel
set_option maxRecDepth 20000 in
theorem ggX1_possibleSets_X6_voices : GoodIn wsX1_possibleSets wsX6_voices := goodIn_r _ [6, 7, 8, 9, 10, 11, 5, 12, 13, 14, 15, 16, 17, 18, 19, 20, 21, 22, 23, 24, 25, 26, 27, 28, 29, 61, 62, 63, 64, 65, 66, 67, 68, 69, 70, 71, 72, 73, 74, 75, 76] (by decide +kernel) (by decide +kernel)
set_option maxRecDepth 20000 in
theorem gX1_possibleSets_X6_voices : GoodIn wsX1_possibleSets (wsV RX1 44 RX6 yX6_voices wsX6_voices) := goodIn_app (goodIn_of _ (by decide +kernel)) ggX1_possibleSets_X6_voices
set_option maxRecDepth 20000 in
theorem ggX1_possibleSets_X1_isSoIfFor : GoodIn wsX1_possibleSets wsX1_isSoIfFor := goodIn_r _ [34, 35, 1, 36, 37, 38, 39, 40, 5, 41, 7, 42, 27, 28, 29, 43, 44, 45, 46, 17, 18, 47, 48, 49, 50, 51, 52, 53, 54, 55, 56, 57, 58, 59, 60, 61, 62, 63, 64, 65, 66, 67, 68, 69, 70, 71, 72, 73, 74, 75, 76] (by decide +kernel) (by decide +kernel)
set_option maxRecDepth 20000 in
theorem gX1_possibleSets_X1_isSoIfFor : GoodIn wsX1_possibleSets (wsV RX1 48 RX1 yX1_isSoIfFor wsX1_isSoIfFor) := goodIn_app (goodIn_of _ (by decide +kernel)) ggX1_possibleSets_X1_isSoIfFor
theorem dX1_possibleSets_0 : decode cX1_possibleSets 0 = .ok (.aload_n 0, 1) := by decide +kernel
theorem dX1_possibleSets_1 : decode cX1_possibleSets 1 = .ok (.getfield 23, 3) := by decide +kernel
theorem dX1_possibleSets_4 : decode cX1_possibleSets 4 = .ok (.invokevirtual 44, 3) := by decide +kernel
theorem dX1_possibleSets_7 : decode cX1_possibleSets 7 = .ok (.istore_n 2, 1) := by decide +kernel
theorem dX1_possibleSets_8 : decode cX1_possibleSets 8 = .ok (.iconst 0, 1) := by decide +kernel
theorem dX1_possibleSets_9 : decode cX1_possibleSets 9 = .ok (.istore_n 3, 1) := by decide +kernel
theorem dX1_possibleSets_10 : decode cX1_possibleSets 10 = .ok (.iconst 0, 1) := by decide +kernel
theorem dX1_possibleSets_11 : decode cX1_possibleSets 11 = .ok (.istore 4, 2) := by decide +kernel
theorem dX1_possibleSets_13 : decode cX1_possibleSets 13 = .ok (.iload 4, 2) := by decide +kernel
theorem dX1_possibleSets_15 : decode cX1_possibleSets 15 = .ok (.bipush 32, 2) := by decide +kernel
theorem dX1_possibleSets_17 : decode cX1_possibleSets 17 = .ok (.if_icmp .ge 23, 3) := by decide +kernel
theorem dX1_possibleSets_20 : decode cX1_possibleSets 20 = .ok (.aload_n 0, 1) := by decide +kernel
theorem dX1_possibleSets_21 : decode cX1_possibleSets 21 = .ok (.iload_n 1, 1) := by decide +kernel
theorem dX1_possibleSets_22 : decode cX1_possibleSets 22 = .ok (.iload 4, 2) := by decide +kernel
theorem dX1_possibleSets_24 : decode cX1_possibleSets 24 = .ok (.iload_n 2, 1) := by decide +kernel
theorem dX1_possibleSets_25 : decode cX1_possibleSets 25 = .ok (.invokevirtual 48, 3) := by decide +kernel
theorem dX1_possibleSets_28 : decode cX1_possibleSets 28 = .ok (.ifCond .eq 6, 3) := by decide +kernel
theorem dX1_possibleSets_31 : decode cX1_possibleSets 31 = .ok (.iinc 3 1, 3) := by decide +kernel
theorem dX1_possibleSets_34 : decode cX1_possibleSets 34 = .ok (.iinc 4 1, 3) := by decide +kernel
theorem dX1_possibleSets_37 : decode cX1_possibleSets 37 = .ok (.goto (-24), 3) := by decide +kernel
theorem dX1_possibleSets_40 : decode cX1_possibleSets 40 = .ok (.iload_n 3, 1) := by decide +kernel
theorem dX1_possibleSets_41 : decode cX1_possibleSets 41 = .ok (.ireturn, 1) := by decide +kernel
set_option maxRecDepth 20000 in
theorem ggX1_leastPossibleSet_X6_voices : GoodIn wsX1_leastPossibleSet wsX6_voices := goodIn_r _ [6, 7, 8, 9, 10, 11, 5, 12, 13, 14, 15, 16, 17, 18, 19, 20, 21, 22, 23, 24, 25, 26, 27, 28, 29, 61, 62, 63, 64, 65, 66, 67, 68, 69, 70, 71, 72, 73, 74, 75, 76] (by decide +kernel) (by decide +kernel)
set_option maxRecDepth 20000 in
theorem gX1_leastPossibleSet_X6_voices : GoodIn wsX1_leastPossibleSet (wsV RX1 44 RX6 yX6_voices wsX6_voices) := goodIn_app (goodIn_of _ (by decide +kernel)) ggX1_leastPossibleSet_X6_voices
set_option maxRecDepth 20000 in
theorem ggX1_leastPossibleSet_X1_isSoIfFor : GoodIn wsX1_leastPossibleSet wsX1_isSoIfFor := goodIn_r _ [34, 35, 1, 36, 37, 38, 39, 40, 5, 41, 7, 42, 27, 28, 29, 43, 44, 45, 46, 17, 18, 47, 48, 49, 50, 51, 52, 53, 54, 55, 56, 57, 58, 59, 60, 61, 62, 63, 64, 65, 66, 67, 68, 69, 70, 71, 72, 73, 74, 75, 76] (by decide +kernel) (by decide +kernel)
set_option maxRecDepth 20000 in
theorem gX1_leastPossibleSet_X1_isSoIfFor : GoodIn wsX1_leastPossibleSet (wsV RX1 48 RX1 yX1_isSoIfFor wsX1_isSoIfFor) := goodIn_app (goodIn_of _ (by decide +kernel)) ggX1_leastPossibleSet_X1_isSoIfFor
theorem dX1_leastPossibleSet_0 : decode cX1_leastPossibleSet 0 = .ok (.aload_n 0, 1) := by decide +kernel
theorem dX1_leastPossibleSet_1 : decode cX1_leastPossibleSet 1 = .ok (.getfield 23, 3) := by decide +kernel
theorem dX1_leastPossibleSet_4 : decode cX1_leastPossibleSet 4 = .ok (.invokevirtual 44, 3) := by decide +kernel
theorem dX1_leastPossibleSet_7 : decode cX1_leastPossibleSet 7 = .ok (.istore_n 2, 1) := by decide +kernel
theorem dX1_leastPossibleSet_8 : decode cX1_leastPossibleSet 8 = .ok (.iconst 0, 1) := by decide +kernel
theorem dX1_leastPossibleSet_9 : decode cX1_leastPossibleSet 9 = .ok (.istore_n 3, 1) := by decide +kernel
theorem dX1_leastPossibleSet_10 : decode cX1_leastPossibleSet 10 = .ok (.iload_n 3, 1) := by decide +kernel
theorem dX1_leastPossibleSet_11 : decode cX1_leastPossibleSet 11 = .ok (.bipush 32, 2) := by decide +kernel
theorem dX1_leastPossibleSet_13 : decode cX1_leastPossibleSet 13 = .ok (.if_icmp .ge 21, 3) := by decide +kernel
theorem dX1_leastPossibleSet_16 : decode cX1_leastPossibleSet 16 = .ok (.aload_n 0, 1) := by decide +kernel
theorem dX1_leastPossibleSet_17 : decode cX1_leastPossibleSet 17 = .ok (.iload_n 1, 1) := by decide +kernel
theorem dX1_leastPossibleSet_18 : decode cX1_leastPossibleSet 18 = .ok (.iload_n 3, 1) := by decide +kernel
theorem dX1_leastPossibleSet_19 : decode cX1_leastPossibleSet 19 = .ok (.iload_n 2, 1) := by decide +kernel
theorem dX1_leastPossibleSet_20 : decode cX1_leastPossibleSet 20 = .ok (.invokevirtual 48, 3) := by decide +kernel
theorem dX1_leastPossibleSet_23 : decode cX1_leastPossibleSet 23 = .ok (.ifCond .eq 5, 3) := by decide +kernel
theorem dX1_leastPossibleSet_26 : decode cX1_leastPossibleSet 26 = .ok (.iload_n 3, 1) := by decide +kernel
theorem dX1_leastPossibleSet_27 : decode cX1_leastPossibleSet 27 = .ok (.ireturn, 1) := by decide +kernel
theorem dX1_leastPossibleSet_28 : decode cX1_leastPossibleSet 28 = .ok (.iinc 3 1, 3) := by decide +kernel
theorem dX1_leastPossibleSet_31 : decode cX1_leastPossibleSet 31 = .ok (.goto (-21), 3) := by decide +kernel
theorem dX1_leastPossibleSet_34 : decode cX1_leastPossibleSet 34 = .ok (.bipush (-9), 2) := by decide +kernel
theorem dX1_leastPossibleSet_36 : decode cX1_leastPossibleSet 36 = .ok (.ireturn, 1) := by decide +kernel
set_option maxRecDepth 20000 in
theorem ggX1_possiblySick_X1_isSoIfSick : GoodIn wsX1_possiblySick wsX1_isSoIfSick := goodIn_r _ [8, 1, 9, 10, 11, 12, 13, 14, 15, 16, 17, 18, 19, 20, 21, 22, 23, 24, 25, 26, 27, 28, 29, 30, 31, 32, 33, 34, 35, 36, 37, 38, 39, 40, 41, 42, 43, 44, 45, 46, 47, 48, 49, 50, 51, 52, 53, 54, 55, 56, 57, 58, 59, 60, 61, 62, 63, 64, 65, 66, 67, 68, 69] (by decide +kernel) (by decide +kernel)
set_option maxRecDepth 20000 in
theorem gX1_possiblySick_X1_isSoIfSick : GoodIn wsX1_possiblySick (wsV RX1 52 RX1 yX1_isSoIfSick wsX1_isSoIfSick) := goodIn_app (goodIn_of _ (by decide +kernel)) ggX1_possiblySick_X1_isSoIfSick
theorem dX1_possiblySick_0 : decode cX1_possiblySick 0 = .ok (.aload_n 0, 1) := by decide +kernel
theorem dX1_possiblySick_1 : decode cX1_possiblySick 1 = .ok (.iconst 0, 1) := by decide +kernel
theorem dX1_possiblySick_2 : decode cX1_possiblySick 2 = .ok (.invokevirtual 52, 3) := by decide +kernel
theorem dX1_possiblySick_5 : decode cX1_possiblySick 5 = .ok (.ifCond .eq 8, 3) := by decide +kernel
theorem dX1_possiblySick_8 : decode cX1_possiblySick 8 = .ok (.bipush 32, 2) := by decide +kernel
theorem dX1_possiblySick_10 : decode cX1_possiblySick 10 = .ok (.goto 4, 3) := by decide +kernel
theorem dX1_possiblySick_13 : decode cX1_possiblySick 13 = .ok (.iconst 0, 1) := by decide +kernel
theorem dX1_possiblySick_14 : decode cX1_possiblySick 14 = .ok (.istore_n 1, 1) := by decide +kernel
theorem dX1_possiblySick_15 : decode cX1_possiblySick 15 = .ok (.iconst 0, 1) := by decide +kernel
theorem dX1_possiblySick_16 : decode cX1_possiblySick 16 = .ok (.istore_n 2, 1) := by decide +kernel
theorem dX1_possiblySick_17 : decode cX1_possiblySick 17 = .ok (.iload_n 2, 1) := by decide +kernel
theorem dX1_possiblySick_18 : decode cX1_possiblySick 18 = .ok (.aload_n 0, 1) := by decide +kernel
theorem dX1_possiblySick_19 : decode cX1_possiblySick 19 = .ok (.getfield 23, 3) := by decide +kernel
theorem dX1_possiblySick_22 : decode cX1_possiblySick 22 = .ok (.getfield 56, 3) := by decide +kernel
theorem dX1_possiblySick_25 : decode cX1_possiblySick 25 = .ok (.getfield 60, 3) := by decide +kernel
theorem dX1_possiblySick_28 : decode cX1_possiblySick 28 = .ok (.if_icmp .ge 25, 3) := by decide +kernel
theorem dX1_possiblySick_31 : decode cX1_possiblySick 31 = .ok (.aload_n 0, 1) := by decide +kernel
theorem dX1_possiblySick_32 : decode cX1_possiblySick 32 = .ok (.iconst 1, 1) := by decide +kernel
theorem dX1_possiblySick_33 : decode cX1_possiblySick 33 = .ok (.iload_n 2, 1) := by decide +kernel
theorem dX1_possiblySick_34 : decode cX1_possiblySick 34 = .ok (.ishl, 1) := by decide +kernel
theorem dX1_possiblySick_35 : decode cX1_possiblySick 35 = .ok (.invokevirtual 52, 3) := by decide +kernel
theorem dX1_possiblySick_38 : decode cX1_possiblySick 38 = .ok (.ifCond .eq 9, 3) := by decide +kernel
theorem dX1_possiblySick_41 : decode cX1_possiblySick 41 = .ok (.iload_n 1, 1) := by decide +kernel
theorem dX1_possiblySick_42 : decode cX1_possiblySick 42 = .ok (.iconst 1, 1) := by decide +kernel
theorem dX1_possiblySick_43 : decode cX1_possiblySick 43 = .ok (.iload_n 2, 1) := by decide +kernel
theorem dX1_possiblySick_44 : decode cX1_possiblySick 44 = .ok (.ishl, 1) := by decide +kernel
theorem dX1_possiblySick_45 : decode cX1_possiblySick 45 = .ok (.ior, 1) := by decide +kernel
theorem dX1_possiblySick_46 : decode cX1_possiblySick 46 = .ok (.istore_n 1, 1) := by decide +kernel
theorem dX1_possiblySick_47 : decode cX1_possiblySick 47 = .ok (.iinc 2 1, 3) := by decide +kernel
theorem dX1_possiblySick_50 : decode cX1_possiblySick 50 = .ok (.goto (-33), 3) := by decide +kernel
theorem dX1_possiblySick_53 : decode cX1_possiblySick 53 = .ok (.iload_n 1, 1) := by decide +kernel
theorem dX1_possiblySick_54 : decode cX1_possiblySick 54 = .ok (.ireturn, 1) := by decide +kernel
theorem dX2_init_0 : decode cX2_init 0 = .ok (.aload_n 0, 1) := by decide +kernel
theorem dX2_init_1 : decode cX2_init 1 = .ok (.invokespecial 3, 3) := by decide +kernel
theorem dX2_init_4 : decode cX2_init 4 = .ok (.aload_n 0, 1) := by decide +kernel
theorem dX2_init_5 : decode cX2_init 5 = .ok (.bipush 7, 2) := by decide +kernel
theorem dX2_init_7 : decode cX2_init 7 = .ok (.newarray .int, 2) := by decide +kernel
theorem dX2_init_9 : decode cX2_init 9 = .ok (.putfield 9, 3) := by decide +kernel
theorem dX2_init_12 : decode cX2_init 12 = .ok (.aload_n 0, 1) := by decide +kernel
theorem dX2_init_13 : decode cX2_init 13 = .ok (.bipush 7, 2) := by decide +kernel
theorem dX2_init_15 : decode cX2_init 15 = .ok (.newarray .int, 2) := by decide +kernel
theorem dX2_init_17 : decode cX2_init 17 = .ok (.putfield 15, 3) := by decide +kernel
theorem dX2_init_20 : decode cX2_init 20 = .ok (.aload_n 0, 1) := by decide +kernel
theorem dX2_init_21 : decode cX2_init 21 = .ok (.iconst 0, 1) := by decide +kernel
theorem dX2_init_22 : decode cX2_init 22 = .ok (.putfield 18, 3) := by decide +kernel
theorem dX2_init_25 : decode cX2_init 25 = .ok (.aload_n 0, 1) := by decide +kernel
theorem dX2_init_26 : decode cX2_init 26 = .ok (.iconst 0, 1) := by decide +kernel
theorem dX2_init_27 : decode cX2_init 27 = .ok (.putfield 22, 3) := by decide +kernel
theorem dX2_init_30 : decode cX2_init 30 = .ok (.aload_n 0, 1) := by decide +kernel
theorem dX2_init_31 : decode cX2_init 31 = .ok (.iconst 0, 1) := by decide +kernel
theorem dX2_init_32 : decode cX2_init 32 = .ok (.putfield 25, 3) := by decide +kernel
theorem dX2_init_35 : decode cX2_init 35 = .ok (.aload_n 0, 1) := by decide +kernel
theorem dX2_init_36 : decode cX2_init 36 = .ok (.iconst 0, 1) := by decide +kernel
theorem dX2_init_37 : decode cX2_init 37 = .ok (.putfield 28, 3) := by decide +kernel
theorem dX2_init_40 : decode cX2_init 40 = .ok (.aload_n 0, 1) := by decide +kernel
theorem dX2_init_41 : decode cX2_init 41 = .ok (.iconst 0, 1) := by decide +kernel
theorem dX2_init_42 : decode cX2_init 42 = .ok (.putfield 31, 3) := by decide +kernel
theorem dX2_init_45 : decode cX2_init 45 = .ok (.return_, 1) := by decide +kernel
set_option maxRecDepth 20000 in
theorem ggX2_beginWith_J7_fill_53178 : GoodIn wsX2_beginWith wsJ7_fill_53178 := goodIn_r _ [16] (by decide +kernel) (by decide +kernel)
set_option maxRecDepth 20000 in
theorem gX2_beginWith_J7_fill_53178 : GoodIn wsX2_beginWith (va_wsS RX2 45 yJ7_fill_53178 wsJ7_fill_53178) := goodIn_app (goodIn_of _ (by decide +kernel)) ggX2_beginWith_J7_fill_53178
theorem dX2_beginWith_0 : decode cX2_beginWith 0 = .ok (.aload_n 1, 1) := by decide +kernel
theorem dX2_beginWith_1 : decode cX2_beginWith 1 = .ok (.getfield 34, 3) := by decide +kernel
theorem dX2_beginWith_4 : decode cX2_beginWith 4 = .ok (.iconst 0, 1) := by decide +kernel
theorem dX2_beginWith_5 : decode cX2_beginWith 5 = .ok (.aload_n 0, 1) := by decide +kernel
theorem dX2_beginWith_6 : decode cX2_beginWith 6 = .ok (.getfield 9, 3) := by decide +kernel
theorem dX2_beginWith_9 : decode cX2_beginWith 9 = .ok (.iconst 0, 1) := by decide +kernel
theorem dX2_beginWith_10 : decode cX2_beginWith 10 = .ok (.bipush 7, 2) := by decide +kernel
theorem dX2_beginWith_12 : decode cX2_beginWith 12 = .ok (.invokestatic 39, 3) := by decide +kernel
theorem dX2_beginWith_15 : decode cX2_beginWith 15 = .ok (.aload_n 0, 1) := by decide +kernel
theorem dX2_beginWith_16 : decode cX2_beginWith 16 = .ok (.getfield 15, 3) := by decide +kernel
theorem dX2_beginWith_19 : decode cX2_beginWith 19 = .ok (.iconst 0, 1) := by decide +kernel
theorem dX2_beginWith_20 : decode cX2_beginWith 20 = .ok (.invokestatic 45, 3) := by decide +kernel
theorem dX2_beginWith_23 : decode cX2_beginWith 23 = .ok (.aload_n 0, 1) := by decide +kernel
theorem dX2_beginWith_24 : decode cX2_beginWith 24 = .ok (.iconst 0, 1) := by decide +kernel
theorem dX2_beginWith_25 : decode cX2_beginWith 25 = .ok (.putfield 18, 3) := by decide +kernel
theorem dX2_beginWith_28 : decode cX2_beginWith 28 = .ok (.aload_n 0, 1) := by decide +kernel
theorem dX2_beginWith_29 : decode cX2_beginWith 29 = .ok (.iconst 0, 1) := by decide +kernel
theorem dX2_beginWith_30 : decode cX2_beginWith 30 = .ok (.putfield 22, 3) := by decide +kernel
theorem dX2_beginWith_33 : decode cX2_beginWith 33 = .ok (.aload_n 0, 1) := by decide +kernel
theorem dX2_beginWith_34 : decode cX2_beginWith 34 = .ok (.iconst 0, 1) := by decide +kernel
theorem dX2_beginWith_35 : decode cX2_beginWith 35 = .ok (.putfield 25, 3) := by decide +kernel
theorem dX2_beginWith_38 : decode cX2_beginWith 38 = .ok (.aload_n 0, 1) := by decide +kernel
theorem dX2_beginWith_39 : decode cX2_beginWith 39 = .ok (.iconst 0, 1) := by decide +kernel
theorem dX2_beginWith_40 : decode cX2_beginWith 40 = .ok (.putfield 28, 3) := by decide +kernel
theorem dX2_beginWith_43 : decode cX2_beginWith 43 = .ok (.aload_n 0, 1) := by decide +kernel
theorem dX2_beginWith_44 : decode cX2_beginWith 44 = .ok (.iconst 0, 1) := by decide +kernel
theorem dX2_beginWith_45 : decode cX2_beginWith 45 = .ok (.putfield 31, 3) := by decide +kernel
theorem dX2_beginWith_48 : decode cX2_beginWith 48 = .ok (.return_, 1) := by decide +kernel
theorem dX2_cool_0 : decode cX2_cool 0 = .ok (.iconst 0, 1) := by decide +kernel
theorem dX2_cool_1 : decode cX2_cool 1 = .ok (.istore_n 1, 1) := by decide +kernel
theorem dX2_cool_2 : decode cX2_cool 2 = .ok (.iload_n 1, 1) := by decide +kernel
theorem dX2_cool_3 : decode cX2_cool 3 = .ok (.bipush 7, 2) := by decide +kernel
theorem dX2_cool_5 : decode cX2_cool 5 = .ok (.if_icmp .ge 28, 3) := by decide +kernel
theorem dX2_cool_8 : decode cX2_cool 8 = .ok (.aload_n 0, 1) := by decide +kernel
theorem dX2_cool_9 : decode cX2_cool 9 = .ok (.getfield 15, 3) := by decide +kernel
theorem dX2_cool_12 : decode cX2_cool 12 = .ok (.iload_n 1, 1) := by decide +kernel
theorem dX2_cool_13 : decode cX2_cool 13 = .ok (.iaload, 1) := by decide +kernel
theorem dX2_cool_14 : decode cX2_cool 14 = .ok (.ifCond .le 13, 3) := by decide +kernel
theorem dX2_cool_17 : decode cX2_cool 17 = .ok (.aload_n 0, 1) := by decide +kernel
theorem dX2_cool_18 : decode cX2_cool 18 = .ok (.getfield 15, 3) := by decide +kernel
theorem dX2_cool_21 : decode cX2_cool 21 = .ok (.iload_n 1, 1) := by decide +kernel
theorem dX2_cool_22 : decode cX2_cool 22 = .ok (.dup2, 1) := by decide +kernel
theorem dX2_cool_23 : decode cX2_cool 23 = .ok (.iaload, 1) := by decide +kernel
theorem dX2_cool_24 : decode cX2_cool 24 = .ok (.iconst 1, 1) := by decide +kernel
theorem dX2_cool_25 : decode cX2_cool 25 = .ok (.isub, 1) := by decide +kernel
theorem dX2_cool_26 : decode cX2_cool 26 = .ok (.iastore, 1) := by decide +kernel
theorem dX2_cool_27 : decode cX2_cool 27 = .ok (.iinc 1 1, 3) := by decide +kernel
theorem dX2_cool_30 : decode cX2_cool 30 = .ok (.goto (-28), 3) := by decide +kernel
theorem dX2_cool_33 : decode cX2_cool 33 = .ok (.return_, 1) := by decide +kernel
theorem dX2_copyFrom_0 : decode cX2_copyFrom 0 = .ok (.aload_n 1, 1) := by decide +kernel
theorem dX2_copyFrom_1 : decode cX2_copyFrom 1 = .ok (.getfield 9, 3) := by decide +kernel
theorem dX2_copyFrom_4 : decode cX2_copyFrom 4 = .ok (.iconst 0, 1) := by decide +kernel
theorem dX2_copyFrom_5 : decode cX2_copyFrom 5 = .ok (.aload_n 0, 1) := by decide +kernel
theorem dX2_copyFrom_6 : decode cX2_copyFrom 6 = .ok (.getfield 9, 3) := by decide +kernel
theorem dX2_copyFrom_9 : decode cX2_copyFrom 9 = .ok (.iconst 0, 1) := by decide +kernel
theorem dX2_copyFrom_10 : decode cX2_copyFrom 10 = .ok (.bipush 7, 2) := by decide +kernel
theorem dX2_copyFrom_12 : decode cX2_copyFrom 12 = .ok (.invokestatic 39, 3) := by decide +kernel
theorem dX2_copyFrom_15 : decode cX2_copyFrom 15 = .ok (.aload_n 1, 1) := by decide +kernel
theorem dX2_copyFrom_16 : decode cX2_copyFrom 16 = .ok (.getfield 15, 3) := by decide +kernel
theorem dX2_copyFrom_19 : decode cX2_copyFrom 19 = .ok (.iconst 0, 1) := by decide +kernel
theorem dX2_copyFrom_20 : decode cX2_copyFrom 20 = .ok (.aload_n 0, 1) := by decide +kernel
theorem dX2_copyFrom_21 : decode cX2_copyFrom 21 = .ok (.getfield 15, 3) := by decide +kernel
theorem dX2_copyFrom_24 : decode cX2_copyFrom 24 = .ok (.iconst 0, 1) := by decide +kernel
theorem dX2_copyFrom_25 : decode cX2_copyFrom 25 = .ok (.bipush 7, 2) := by decide +kernel
theorem dX2_copyFrom_27 : decode cX2_copyFrom 27 = .ok (.invokestatic 39, 3) := by decide +kernel
theorem dX2_copyFrom_30 : decode cX2_copyFrom 30 = .ok (.aload_n 0, 1) := by decide +kernel
theorem dX2_copyFrom_31 : decode cX2_copyFrom 31 = .ok (.aload_n 1, 1) := by decide +kernel
theorem dX2_copyFrom_32 : decode cX2_copyFrom 32 = .ok (.getfield 18, 3) := by decide +kernel
theorem dX2_copyFrom_35 : decode cX2_copyFrom 35 = .ok (.putfield 18, 3) := by decide +kernel
theorem dX2_copyFrom_38 : decode cX2_copyFrom 38 = .ok (.aload_n 0, 1) := by decide +kernel
theorem dX2_copyFrom_39 : decode cX2_copyFrom 39 = .ok (.aload_n 1, 1) := by decide +kernel
theorem dX2_copyFrom_40 : decode cX2_copyFrom 40 = .ok (.getfield 22, 3) := by decide +kernel
theorem dX2_copyFrom_43 : decode cX2_copyFrom 43 = .ok (.putfield 22, 3) := by decide +kernel
theorem dX2_copyFrom_46 : decode cX2_copyFrom 46 = .ok (.aload_n 0, 1) := by decide +kernel
theorem dX2_copyFrom_47 : decode cX2_copyFrom 47 = .ok (.aload_n 1, 1) := by decide +kernel
theorem dX2_copyFrom_48 : decode cX2_copyFrom 48 = .ok (.getfield 25, 3) := by decide +kernel
theorem dX2_copyFrom_51 : decode cX2_copyFrom 51 = .ok (.putfield 25, 3) := by decide +kernel
theorem dX2_copyFrom_54 : decode cX2_copyFrom 54 = .ok (.aload_n 0, 1) := by decide +kernel
theorem dX2_copyFrom_55 : decode cX2_copyFrom 55 = .ok (.aload_n 1, 1) := by decide +kernel
theorem dX2_copyFrom_56 : decode cX2_copyFrom 56 = .ok (.getfield 28, 3) := by decide +kernel
theorem dX2_copyFrom_59 : decode cX2_copyFrom 59 = .ok (.putfield 28, 3) := by decide +kernel
theorem dX2_copyFrom_62 : decode cX2_copyFrom 62 = .ok (.aload_n 0, 1) := by decide +kernel
theorem dX2_copyFrom_63 : decode cX2_copyFrom 63 = .ok (.aload_n 1, 1) := by decide +kernel
theorem dX2_copyFrom_64 : decode cX2_copyFrom 64 = .ok (.getfield 31, 3) := by decide +kernel
theorem dX2_copyFrom_67 : decode cX2_copyFrom 67 = .ok (.putfield 31, 3) := by decide +kernel
theorem dX2_copyFrom_70 : decode cX2_copyFrom 70 = .ok (.return_, 1) := by decide +kernel
set_option maxRecDepth 20000 in
theorem ggX3_init_X2_init : GoodIn wsX3_init wsX2_init := goodIn_r _ [11, 12, 2, 3, 13, 14, 15, 16, 17, 18, 19, 20, 24, 25, 26, 27, 28, 29, 30] (by decide +kernel) (by decide +kernel)
set_option maxRecDepth 20000 in
theorem gX3_init_X2_init_n24 : GoodIn wsX3_init (wsX2_init) := ggX3_init_X2_init
theorem dX3_init_0 : decode cX3_init 0 = .ok (.aload_n 0, 1) := by decide +kernel
theorem dX3_init_1 : decode cX3_init 1 = .ok (.invokespecial 3, 3) := by decide +kernel
theorem dX3_init_4 : decode cX3_init 4 = .ok (.aload_n 0, 1) := by decide +kernel
theorem dX3_init_5 : decode cX3_init 5 = .ok (.bipush 10, 2) := by decide +kernel
theorem dX3_init_7 : decode cX3_init 7 = .ok (.anewarray 9, 3) := by decide +kernel
theorem dX3_init_10 : decode cX3_init 10 = .ok (.putfield 11, 3) := by decide +kernel
theorem dX3_init_13 : decode cX3_init 13 = .ok (.aload_n 0, 1) := by decide +kernel
theorem dX3_init_14 : decode cX3_init 14 = .ok (.iconst 0, 1) := by decide +kernel
theorem dX3_init_15 : decode cX3_init 15 = .ok (.putfield 17, 3) := by decide +kernel
theorem dX3_init_18 : decode cX3_init 18 = .ok (.aload_n 0, 1) := by decide +kernel
theorem dX3_init_19 : decode cX3_init 19 = .ok (.iconst 0, 1) := by decide +kernel
theorem dX3_init_20 : decode cX3_init 20 = .ok (.putfield 21, 3) := by decide +kernel
theorem dX3_init_23 : decode cX3_init 23 = .ok (.iconst 0, 1) := by decide +kernel
theorem dX3_init_24 : decode cX3_init 24 = .ok (.istore_n 1, 1) := by decide +kernel
theorem dX3_init_25 : decode cX3_init 25 = .ok (.iload_n 1, 1) := by decide +kernel
theorem dX3_init_26 : decode cX3_init 26 = .ok (.bipush 10, 2) := by decide +kernel
theorem dX3_init_28 : decode cX3_init 28 = .ok (.if_icmp .ge 22, 3) := by decide +kernel
theorem dX3_init_31 : decode cX3_init 31 = .ok (.aload_n 0, 1) := by decide +kernel
theorem dX3_init_32 : decode cX3_init 32 = .ok (.getfield 11, 3) := by decide +kernel
theorem dX3_init_35 : decode cX3_init 35 = .ok (.iload_n 1, 1) := by decide +kernel
theorem dX3_init_36 : decode cX3_init 36 = .ok (.new 9, 3) := by decide +kernel
theorem dX3_init_39 : decode cX3_init 39 = .ok (.dup, 1) := by decide +kernel
theorem dX3_init_40 : decode cX3_init 40 = .ok (.invokespecial 24, 3) := by decide +kernel
theorem dX3_init_43 : decode cX3_init 43 = .ok (.aastore, 1) := by decide +kernel
theorem dX3_init_44 : decode cX3_init 44 = .ok (.iinc 1 1, 3) := by decide +kernel
theorem dX3_init_47 : decode cX3_init 47 = .ok (.goto (-22), 3) := by decide +kernel
theorem dX3_init_50 : decode cX3_init 50 = .ok (.return_, 1) := by decide +kernel
set_option maxRecDepth 20000 in
theorem ggX3_remember_X2_copyFrom : GoodIn wsX3_remember wsX2_copyFrom := goodIn_r _ [12, 13, 14, 15, 16, 17, 18, 19, 20, 21, 22, 23, 27, 28, 29, 30, 31, 32, 33] (by decide +kernel) (by decide +kernel)
set_option maxRecDepth 20000 in
theorem gX3_remember_X2_copyFrom : GoodIn wsX3_remember (wsV RX3 25 RX2 yX2_copyFrom wsX2_copyFrom) := goodIn_app (goodIn_of _ (by decide +kernel)) ggX3_remember_X2_copyFrom
theorem dX3_remember_0 : decode cX3_remember 0 = .ok (.aload_n 0, 1) := by decide +kernel
theorem dX3_remember_1 : decode cX3_remember 1 = .ok (.getfield 11, 3) := by decide +kernel
theorem dX3_remember_4 : decode cX3_remember 4 = .ok (.aload_n 0, 1) := by decide +kernel
theorem dX3_remember_5 : decode cX3_remember 5 = .ok (.getfield 17, 3) := by decide +kernel
theorem dX3_remember_8 : decode cX3_remember 8 = .ok (.aaload, 1) := by decide +kernel
theorem dX3_remember_9 : decode cX3_remember 9 = .ok (.aload_n 1, 1) := by decide +kernel
theorem dX3_remember_10 : decode cX3_remember 10 = .ok (.invokevirtual 25, 3) := by decide +kernel
theorem dX3_remember_13 : decode cX3_remember 13 = .ok (.aload_n 0, 1) := by decide +kernel
theorem dX3_remember_14 : decode cX3_remember 14 = .ok (.aload_n 0, 1) := by decide +kernel
theorem dX3_remember_15 : decode cX3_remember 15 = .ok (.getfield 17, 3) := by decide +kernel
theorem dX3_remember_18 : decode cX3_remember 18 = .ok (.bipush 9, 2) := by decide +kernel
theorem dX3_remember_20 : decode cX3_remember 20 = .ok (.if_icmp .ne 7, 3) := by decide +kernel
theorem dX3_remember_23 : decode cX3_remember 23 = .ok (.iconst 0, 1) := by decide +kernel
theorem dX3_remember_24 : decode cX3_remember 24 = .ok (.goto 9, 3) := by decide +kernel
theorem dX3_remember_27 : decode cX3_remember 27 = .ok (.aload_n 0, 1) := by decide +kernel
theorem dX3_remember_28 : decode cX3_remember 28 = .ok (.getfield 17, 3) := by decide +kernel
theorem dX3_remember_31 : decode cX3_remember 31 = .ok (.iconst 1, 1) := by decide +kernel
theorem dX3_remember_32 : decode cX3_remember 32 = .ok (.iadd, 1) := by decide +kernel
theorem dX3_remember_33 : decode cX3_remember 33 = .ok (.putfield 17, 3) := by decide +kernel
theorem dX3_remember_36 : decode cX3_remember 36 = .ok (.aload_n 0, 1) := by decide +kernel
theorem dX3_remember_37 : decode cX3_remember 37 = .ok (.aload_n 0, 1) := by decide +kernel
theorem dX3_remember_38 : decode cX3_remember 38 = .ok (.getfield 21, 3) := by decide +kernel
theorem dX3_remember_41 : decode cX3_remember 41 = .ok (.iconst 1, 1) := by decide +kernel
theorem dX3_remember_42 : decode cX3_remember 42 = .ok (.iadd, 1) := by decide +kernel
theorem dX3_remember_43 : decode cX3_remember 43 = .ok (.bipush 10, 2) := by decide +kernel
theorem dX3_remember_45 : decode cX3_remember 45 = .ok (.invokestatic 29, 3) := by decide +kernel
theorem dX3_remember_48 : decode cX3_remember 48 = .ok (.putfield 21, 3) := by decide +kernel
theorem dX3_remember_51 : decode cX3_remember 51 = .ok (.return_, 1) := by decide +kernel
set_option maxRecDepth 20000 in
theorem ggX3_recall_X2_copyFrom : GoodIn wsX3_recall wsX2_copyFrom := goodIn_r _ [8, 9, 10, 11, 12, 13, 14, 15, 16, 17, 18, 19, 23, 24, 25, 26, 27, 28, 29] (by decide +kernel) (by decide +kernel)
set_option maxRecDepth 20000 in
theorem gX3_recall_X2_copyFrom : GoodIn wsX3_recall (wsV RX3 25 RX2 yX2_copyFrom wsX2_copyFrom) := goodIn_app (goodIn_of _ (by decide +kernel)) ggX3_recall_X2_copyFrom
theorem dX3_recall_0 : decode cX3_recall 0 = .ok (.aload_n 0, 1) := by decide +kernel
theorem dX3_recall_1 : decode cX3_recall 1 = .ok (.getfield 21, 3) := by decide +kernel
theorem dX3_recall_4 : decode cX3_recall 4 = .ok (.ifCond .ne 4, 3) := by decide +kernel
theorem dX3_recall_7 : decode cX3_recall 7 = .ok (.return_, 1) := by decide +kernel
theorem dX3_recall_8 : decode cX3_recall 8 = .ok (.aload_n 0, 1) := by decide +kernel
theorem dX3_recall_9 : decode cX3_recall 9 = .ok (.aload_n 0, 1) := by decide +kernel
theorem dX3_recall_10 : decode cX3_recall 10 = .ok (.getfield 17, 3) := by decide +kernel
theorem dX3_recall_13 : decode cX3_recall 13 = .ok (.ifCond .ne 8, 3) := by decide +kernel
theorem dX3_recall_16 : decode cX3_recall 16 = .ok (.bipush 9, 2) := by decide +kernel
theorem dX3_recall_18 : decode cX3_recall 18 = .ok (.goto 9, 3) := by decide +kernel
theorem dX3_recall_21 : decode cX3_recall 21 = .ok (.aload_n 0, 1) := by decide +kernel
theorem dX3_recall_22 : decode cX3_recall 22 = .ok (.getfield 17, 3) := by decide +kernel
theorem dX3_recall_25 : decode cX3_recall 25 = .ok (.iconst 1, 1) := by decide +kernel
theorem dX3_recall_26 : decode cX3_recall 26 = .ok (.isub, 1) := by decide +kernel
theorem dX3_recall_27 : decode cX3_recall 27 = .ok (.putfield 17, 3) := by decide +kernel
theorem dX3_recall_30 : decode cX3_recall 30 = .ok (.aload_n 0, 1) := by decide +kernel
theorem dX3_recall_31 : decode cX3_recall 31 = .ok (.dup, 1) := by decide +kernel
theorem dX3_recall_32 : decode cX3_recall 32 = .ok (.getfield 21, 3) := by decide +kernel
theorem dX3_recall_35 : decode cX3_recall 35 = .ok (.iconst 1, 1) := by decide +kernel
theorem dX3_recall_36 : decode cX3_recall 36 = .ok (.isub, 1) := by decide +kernel
theorem dX3_recall_37 : decode cX3_recall 37 = .ok (.putfield 21, 3) := by decide +kernel
theorem dX3_recall_40 : decode cX3_recall 40 = .ok (.aload_n 1, 1) := by decide +kernel
theorem dX3_recall_41 : decode cX3_recall 41 = .ok (.aload_n 0, 1) := by decide +kernel
theorem dX3_recall_42 : decode cX3_recall 42 = .ok (.getfield 11, 3) := by decide +kernel
theorem dX3_recall_45 : decode cX3_recall 45 = .ok (.aload_n 0, 1) := by decide +kernel
theorem dX3_recall_46 : decode cX3_recall 46 = .ok (.getfield 17, 3) := by decide +kernel
theorem dX3_recall_49 : decode cX3_recall 49 = .ok (.aaload, 1) := by decide +kernel
theorem dX3_recall_50 : decode cX3_recall 50 = .ok (.invokevirtual 25, 3) := by decide +kernel
theorem dX3_recall_53 : decode cX3_recall 53 = .ok (.return_, 1) := by decide +kernel
theorem dX3_lose_0 : decode cX3_lose 0 = .ok (.aload_n 0, 1) := by decide +kernel
theorem dX3_lose_1 : decode cX3_lose 1 = .ok (.iconst 0, 1) := by decide +kernel
theorem dX3_lose_2 : decode cX3_lose 2 = .ok (.putfield 21, 3) := by decide +kernel
theorem dX3_lose_5 : decode cX3_lose 5 = .ok (.return_, 1) := by decide +kernel
theorem dX4_init_0 : decode cX4_init 0 = .ok (.aload_n 0, 1) := by decide +kernel
theorem dX4_init_1 : decode cX4_init 1 = .ok (.invokespecial 3, 3) := by decide +kernel
theorem dX4_init_4 : decode cX4_init 4 = .ok (.aload_n 0, 1) := by decide +kernel
theorem dX4_init_5 : decode cX4_init 5 = .ok (.aload_n 1, 1) := by decide +kernel
theorem dX4_init_6 : decode cX4_init 6 = .ok (.putfield 9, 3) := by decide +kernel
theorem dX4_init_9 : decode cX4_init 9 = .ok (.return_, 1) := by decide +kernel
theorem dX4_ordersOf_0 : decode cX4_ordersOf 0 = .ok (.iload_n 0, 1) := by decide +kernel
theorem dX4_ordersOf_1 : decode cX4_ordersOf 1 = .ok (.ifCond .lt 11, 3) := by decide +kernel
theorem dX4_ordersOf_4 : decode cX4_ordersOf 4 = .ok (.iload_n 0, 1) := by decide +kernel
theorem dX4_ordersOf_5 : decode cX4_ordersOf 5 = .ok (.getstatic 15, 3) := by decide +kernel
theorem dX4_ordersOf_8 : decode cX4_ordersOf 8 = .ok (.arraylength, 1) := by decide +kernel
theorem dX4_ordersOf_9 : decode cX4_ordersOf 9 = .ok (.if_icmp .lt 7, 3) := by decide +kernel
theorem dX4_ordersOf_12 : decode cX4_ordersOf 12 = .ok (.iconst 0, 1) := by decide +kernel
theorem dX4_ordersOf_13 : decode cX4_ordersOf 13 = .ok (.goto 8, 3) := by decide +kernel
theorem dX4_ordersOf_16 : decode cX4_ordersOf 16 = .ok (.getstatic 15, 3) := by decide +kernel
theorem dX4_ordersOf_19 : decode cX4_ordersOf 19 = .ok (.iload_n 0, 1) := by decide +kernel
theorem dX4_ordersOf_20 : decode cX4_ordersOf 20 = .ok (.iaload, 1) := by decide +kernel
theorem dX4_ordersOf_21 : decode cX4_ordersOf 21 = .ok (.ireturn, 1) := by decide +kernel
set_option maxRecDepth 20000 in
theorem ggX4_carries_X6_votesOf : GoodIn wsX4_carries wsX6_votesOf := goodIn_r _ [6, 7, 8, 9, 10, 11, 12, 14, 15, 16, 17, 18, 19, 20, 21, 22] (by decide +kernel) (by decide +kernel)
set_option maxRecDepth 20000 in
theorem gX4_carries_X6_votesOf : GoodIn wsX4_carries (wsV RX4 19 RX6 yX6_votesOf wsX6_votesOf) := goodIn_app (goodIn_of _ (by decide +kernel)) ggX4_carries_X6_votesOf
theorem dX4_carries_0 : decode cX4_carries 0 = .ok (.iconst 2, 1) := by decide +kernel
theorem dX4_carries_1 : decode cX4_carries 1 = .ok (.aload_n 0, 1) := by decide +kernel
theorem dX4_carries_2 : decode cX4_carries 2 = .ok (.getfield 9, 3) := by decide +kernel
theorem dX4_carries_5 : decode cX4_carries 5 = .ok (.iload_n 1, 1) := by decide +kernel
theorem dX4_carries_6 : decode cX4_carries 6 = .ok (.invokevirtual 19, 3) := by decide +kernel
theorem dX4_carries_9 : decode cX4_carries 9 = .ok (.imul, 1) := by decide +kernel
theorem dX4_carries_10 : decode cX4_carries 10 = .ok (.aload_n 0, 1) := by decide +kernel
theorem dX4_carries_11 : decode cX4_carries 11 = .ok (.getfield 9, 3) := by decide +kernel
theorem dX4_carries_14 : decode cX4_carries 14 = .ok (.iload_n 2, 1) := by decide +kernel
theorem dX4_carries_15 : decode cX4_carries 15 = .ok (.invokevirtual 19, 3) := by decide +kernel
theorem dX4_carries_18 : decode cX4_carries 18 = .ok (.if_icmp .le 7, 3) := by decide +kernel
theorem dX4_carries_21 : decode cX4_carries 21 = .ok (.iconst 1, 1) := by decide +kernel
theorem dX4_carries_22 : decode cX4_carries 22 = .ok (.goto 4, 3) := by decide +kernel
theorem dX4_carries_25 : decode cX4_carries 25 = .ok (.iconst 0, 1) := by decide +kernel
theorem dX4_carries_26 : decode cX4_carries 26 = .ok (.ireturn, 1) := by decide +kernel
set_option maxRecDepth 20000 in
theorem ggX4_orders_X6_voices : GoodIn wsX4_orders wsX6_voices := goodIn_r _ [6, 7, 8, 9, 10, 11, 5, 12, 13, 14, 15, 16, 17, 18, 19, 20, 21, 22, 23, 24, 25, 26, 27, 28, 29, 43, 44, 45, 46, 47, 48, 49, 50, 51, 52, 53, 54, 55, 56, 57, 58] (by decide +kernel) (by decide +kernel)
set_option maxRecDepth 20000 in
theorem gX4_orders_X6_voices : GoodIn wsX4_orders (wsV RX4 25 RX6 yX6_voices wsX6_voices) := goodIn_app (goodIn_of _ (by decide +kernel)) ggX4_orders_X6_voices
set_option maxRecDepth 20000 in
theorem ggX4_orders_J6_bitCount_0f7a4 : GoodIn wsX4_orders wsJ6_bitCount_0f7a4 := goodIn_r _ [33, 34, 35, 36] (by decide +kernel) (by decide +kernel)
set_option maxRecDepth 20000 in
theorem gX4_orders_J6_bitCount_0f7a4 : GoodIn wsX4_orders (va_wsS RX4 29 yJ6_bitCount_0f7a4 wsJ6_bitCount_0f7a4) := goodIn_app (goodIn_of _ (by decide +kernel)) ggX4_orders_J6_bitCount_0f7a4
set_option maxRecDepth 20000 in
theorem ggX4_orders_X4_ordersOf : GoodIn wsX4_orders wsX4_ordersOf := goodIn_r _ [40, 41] (by decide +kernel) (by decide +kernel)
set_option maxRecDepth 20000 in
theorem gX4_orders_X4_ordersOf : GoodIn wsX4_orders (va_wsS RX4 34 yX4_ordersOf wsX4_ordersOf) := goodIn_app (goodIn_of _ (by decide +kernel)) ggX4_orders_X4_ordersOf
theorem dX4_orders_0 : decode cX4_orders 0 = .ok (.aload_n 0, 1) := by decide +kernel
theorem dX4_orders_1 : decode cX4_orders 1 = .ok (.getfield 9, 3) := by decide +kernel
theorem dX4_orders_4 : decode cX4_orders 4 = .ok (.invokevirtual 25, 3) := by decide +kernel
theorem dX4_orders_7 : decode cX4_orders 7 = .ok (.invokestatic 29, 3) := by decide +kernel
theorem dX4_orders_10 : decode cX4_orders 10 = .ok (.invokestatic 34, 3) := by decide +kernel
theorem dX4_orders_13 : decode cX4_orders 13 = .ok (.ireturn, 1) := by decide +kernel
set_option maxRecDepth 20000 in
theorem ggX4_ordersDecided_X7_isWithin : GoodIn wsX4_ordersDecided wsX7_isWithin := goodIn_r _ [3] (by decide +kernel) (by decide +kernel)
set_option maxRecDepth 20000 in
theorem gX4_ordersDecided_X7_isWithin_n37 : GoodIn wsX4_ordersDecided (wsX7_isWithin) := ggX4_ordersDecided_X7_isWithin
set_option maxRecDepth 20000 in
theorem ggX4_ordersDecided_X4_carries : GoodIn wsX4_ordersDecided wsX4_carries := goodIn_r _ [8, 9, 10, 11, 12, 13, 14, 15, 16, 17, 18, 2, 19, 31, 32, 33, 34, 35, 36, 37, 38, 39, 40] (by decide +kernel) (by decide +kernel)
set_option maxRecDepth 20000 in
theorem gX4_ordersDecided_X4_carries : GoodIn wsX4_ordersDecided (wsV RX4 41 RX4 yX4_carries wsX4_carries) := goodIn_app (goodIn_of _ (by decide +kernel)) ggX4_ordersDecided_X4_carries
set_option maxRecDepth 20000 in
theorem ggX4_ordersDecided_J6_bitCount_0f7a4 : GoodIn wsX4_ordersDecided wsJ6_bitCount_0f7a4 := goodIn_r _ [23, 24, 25, 26] (by decide +kernel) (by decide +kernel)
set_option maxRecDepth 20000 in
theorem gX4_ordersDecided_J6_bitCount_0f7a4 : GoodIn wsX4_ordersDecided (va_wsS RX4 29 yJ6_bitCount_0f7a4 wsJ6_bitCount_0f7a4) := goodIn_app (goodIn_of _ (by decide +kernel)) ggX4_ordersDecided_J6_bitCount_0f7a4
set_option maxRecDepth 20000 in
theorem ggX4_ordersDecided_X4_ordersOf : GoodIn wsX4_ordersDecided wsX4_ordersOf := goodIn_r _ [29, 30] (by decide +kernel) (by decide +kernel)
set_option maxRecDepth 20000 in
theorem gX4_ordersDecided_X4_ordersOf : GoodIn wsX4_ordersDecided (va_wsS RX4 34 yX4_ordersOf wsX4_ordersOf) := goodIn_app (goodIn_of _ (by decide +kernel)) ggX4_ordersDecided_X4_ordersOf
theorem dX4_ordersDecided_0 : decode cX4_ordersDecided 0 = .ok (.iconst 1, 1) := by decide +kernel
theorem dX4_ordersDecided_1 : decode cX4_ordersDecided 1 = .ok (.iload_n 1, 1) := by decide +kernel
theorem dX4_ordersDecided_2 : decode cX4_ordersDecided 2 = .ok (.ishl, 1) := by decide +kernel
theorem dX4_ordersDecided_3 : decode cX4_ordersDecided 3 = .ok (.istore_n 3, 1) := by decide +kernel
theorem dX4_ordersDecided_4 : decode cX4_ordersDecided 4 = .ok (.iload_n 2, 1) := by decide +kernel
theorem dX4_ordersDecided_5 : decode cX4_ordersDecided 5 = .ok (.iload_n 3, 1) := by decide +kernel
theorem dX4_ordersDecided_6 : decode cX4_ordersDecided 6 = .ok (.iconst (-1), 1) := by decide +kernel
theorem dX4_ordersDecided_7 : decode cX4_ordersDecided 7 = .ok (.ixor, 1) := by decide +kernel
theorem dX4_ordersDecided_8 : decode cX4_ordersDecided 8 = .ok (.iand, 1) := by decide +kernel
theorem dX4_ordersDecided_9 : decode cX4_ordersDecided 9 = .ok (.istore 4, 2) := by decide +kernel
theorem dX4_ordersDecided_11 : decode cX4_ordersDecided 11 = .ok (.iload 4, 2) := by decide +kernel
theorem dX4_ordersDecided_13 : decode cX4_ordersDecided 13 = .ok (.iload_n 2, 1) := by decide +kernel
theorem dX4_ordersDecided_14 : decode cX4_ordersDecided 14 = .ok (.if_icmp .ne 5, 3) := by decide +kernel
theorem dX4_ordersDecided_17 : decode cX4_ordersDecided 17 = .ok (.iconst 0, 1) := by decide +kernel
theorem dX4_ordersDecided_18 : decode cX4_ordersDecided 18 = .ok (.ireturn, 1) := by decide +kernel
theorem dX4_ordersDecided_19 : decode cX4_ordersDecided 19 = .ok (.iconst 0, 1) := by decide +kernel
theorem dX4_ordersDecided_20 : decode cX4_ordersDecided 20 = .ok (.istore 5, 2) := by decide +kernel
theorem dX4_ordersDecided_22 : decode cX4_ordersDecided 22 = .ok (.iconst 0, 1) := by decide +kernel
theorem dX4_ordersDecided_23 : decode cX4_ordersDecided 23 = .ok (.istore 6, 2) := by decide +kernel
theorem dX4_ordersDecided_25 : decode cX4_ordersDecided 25 = .ok (.iload 6, 2) := by decide +kernel
theorem dX4_ordersDecided_27 : decode cX4_ordersDecided 27 = .ok (.sipush 128, 3) := by decide +kernel
theorem dX4_ordersDecided_30 : decode cX4_ordersDecided 30 = .ok (.if_icmp .ge 68, 3) := by decide +kernel
theorem dX4_ordersDecided_33 : decode cX4_ordersDecided 33 = .ok (.iload 6, 2) := by decide +kernel
theorem dX4_ordersDecided_35 : decode cX4_ordersDecided 35 = .ok (.iload 4, 2) := by decide +kernel
theorem dX4_ordersDecided_37 : decode cX4_ordersDecided 37 = .ok (.invokestatic 37, 3) := by decide +kernel
theorem dX4_ordersDecided_40 : decode cX4_ordersDecided 40 = .ok (.ifCond .eq 52, 3) := by decide +kernel
theorem dX4_ordersDecided_43 : decode cX4_ordersDecided 43 = .ok (.aload_n 0, 1) := by decide +kernel
theorem dX4_ordersDecided_44 : decode cX4_ordersDecided 44 = .ok (.iload 6, 2) := by decide +kernel
theorem dX4_ordersDecided_46 : decode cX4_ordersDecided 46 = .ok (.iload_n 2, 1) := by decide +kernel
theorem dX4_ordersDecided_47 : decode cX4_ordersDecided 47 = .ok (.invokevirtual 41, 3) := by decide +kernel
theorem dX4_ordersDecided_50 : decode cX4_ordersDecided 50 = .ok (.ifCond .ne 42, 3) := by decide +kernel
theorem dX4_ordersDecided_53 : decode cX4_ordersDecided 53 = .ok (.aload_n 0, 1) := by decide +kernel
theorem dX4_ordersDecided_54 : decode cX4_ordersDecided 54 = .ok (.iload 6, 2) := by decide +kernel
theorem dX4_ordersDecided_56 : decode cX4_ordersDecided 56 = .ok (.iload_n 3, 1) := by decide +kernel
theorem dX4_ordersDecided_57 : decode cX4_ordersDecided 57 = .ok (.ior, 1) := by decide +kernel
theorem dX4_ordersDecided_58 : decode cX4_ordersDecided 58 = .ok (.iload_n 2, 1) := by decide +kernel
theorem dX4_ordersDecided_59 : decode cX4_ordersDecided 59 = .ok (.invokevirtual 41, 3) := by decide +kernel
theorem dX4_ordersDecided_62 : decode cX4_ordersDecided 62 = .ok (.ifCond .eq 30, 3) := by decide +kernel
theorem dX4_ordersDecided_65 : decode cX4_ordersDecided 65 = .ok (.iload 5, 2) := by decide +kernel
theorem dX4_ordersDecided_67 : decode cX4_ordersDecided 67 = .ok (.iload 6, 2) := by decide +kernel
theorem dX4_ordersDecided_69 : decode cX4_ordersDecided 69 = .ok (.invokestatic 29, 3) := by decide +kernel
theorem dX4_ordersDecided_72 : decode cX4_ordersDecided 72 = .ok (.invokestatic 34, 3) := by decide +kernel
theorem dX4_ordersDecided_75 : decode cX4_ordersDecided 75 = .ok (.iload 4, 2) := by decide +kernel
theorem dX4_ordersDecided_77 : decode cX4_ordersDecided 77 = .ok (.iload 6, 2) := by decide +kernel
theorem dX4_ordersDecided_79 : decode cX4_ordersDecided 79 = .ok (.iconst (-1), 1) := by decide +kernel
theorem dX4_ordersDecided_80 : decode cX4_ordersDecided 80 = .ok (.ixor, 1) := by decide +kernel
theorem dX4_ordersDecided_81 : decode cX4_ordersDecided 81 = .ok (.iand, 1) := by decide +kernel
theorem dX4_ordersDecided_82 : decode cX4_ordersDecided 82 = .ok (.invokestatic 29, 3) := by decide +kernel
theorem dX4_ordersDecided_85 : decode cX4_ordersDecided 85 = .ok (.invokestatic 34, 3) := by decide +kernel
theorem dX4_ordersDecided_88 : decode cX4_ordersDecided 88 = .ok (.imul, 1) := by decide +kernel
theorem dX4_ordersDecided_89 : decode cX4_ordersDecided 89 = .ok (.iadd, 1) := by decide +kernel
theorem dX4_ordersDecided_90 : decode cX4_ordersDecided 90 = .ok (.istore 5, 2) := by decide +kernel
theorem dX4_ordersDecided_92 : decode cX4_ordersDecided 92 = .ok (.iinc 6 1, 3) := by decide +kernel
theorem dX4_ordersDecided_95 : decode cX4_ordersDecided 95 = .ok (.goto (-70), 3) := by decide +kernel
theorem dX4_ordersDecided_98 : decode cX4_ordersDecided 98 = .ok (.iload 5, 2) := by decide +kernel
theorem dX4_ordersDecided_100 : decode cX4_ordersDecided 100 = .ok (.ireturn, 1) := by decide +kernel
set_option maxRecDepth 20000 in
theorem ggX4_powerless_X6_voices : GoodIn wsX4_powerless wsX6_voices := goodIn_r _ [6, 7, 8, 9, 10, 11, 5, 12, 13, 14, 15, 16, 17, 18, 19, 20, 21, 22, 23, 24, 25, 26, 27, 28, 29, 58, 59, 60, 61, 62, 63, 64, 65, 66, 67, 68, 69, 70, 71, 72, 73] (by decide +kernel) (by decide +kernel)
set_option maxRecDepth 20000 in
theorem gX4_powerless_X6_voices : GoodIn wsX4_powerless (wsV RX4 25 RX6 yX6_voices wsX6_voices) := goodIn_app (goodIn_of _ (by decide +kernel)) ggX4_powerless_X6_voices
set_option maxRecDepth 20000 in
theorem ggX4_powerless_X7_bit : GoodIn wsX4_powerless wsX7_bit := goodIn_r _ [29] (by decide +kernel) (by decide +kernel)
set_option maxRecDepth 20000 in
theorem gX4_powerless_X7_bit_n44 : GoodIn wsX4_powerless (wsX7_bit) := ggX4_powerless_X7_bit
set_option maxRecDepth 20000 in
theorem ggX4_powerless_X4_ordersDecided : GoodIn wsX4_powerless wsX4_ordersDecided := goodIn_r _ [34, 35, 28, 36, 37, 38, 39, 33, 40, 1, 41, 42, 43, 5, 44, 17, 18, 45, 27, 29, 46, 47, 48, 49, 50, 51, 52, 53, 54, 55, 56, 57, 58, 59, 67, 68, 69, 70, 71, 72, 73] (by decide +kernel) (by decide +kernel)
set_option maxRecDepth 20000 in
theorem gX4_powerless_X4_ordersDecided : GoodIn wsX4_powerless (wsV RX4 48 RX4 yX4_ordersDecided wsX4_ordersDecided) := goodIn_app (goodIn_of _ (by decide +kernel)) ggX4_powerless_X4_ordersDecided
theorem dX4_powerless_0 : decode cX4_powerless 0 = .ok (.aload_n 0, 1) := by decide +kernel
theorem dX4_powerless_1 : decode cX4_powerless 1 = .ok (.getfield 9, 3) := by decide +kernel
theorem dX4_powerless_4 : decode cX4_powerless 4 = .ok (.invokevirtual 25, 3) := by decide +kernel
theorem dX4_powerless_7 : decode cX4_powerless 7 = .ok (.istore_n 1, 1) := by decide +kernel
theorem dX4_powerless_8 : decode cX4_powerless 8 = .ok (.iconst 0, 1) := by decide +kernel
theorem dX4_powerless_9 : decode cX4_powerless 9 = .ok (.istore_n 2, 1) := by decide +kernel
theorem dX4_powerless_10 : decode cX4_powerless 10 = .ok (.iconst 0, 1) := by decide +kernel
theorem dX4_powerless_11 : decode cX4_powerless 11 = .ok (.istore_n 3, 1) := by decide +kernel
theorem dX4_powerless_12 : decode cX4_powerless 12 = .ok (.iload_n 3, 1) := by decide +kernel
theorem dX4_powerless_13 : decode cX4_powerless 13 = .ok (.bipush 7, 2) := by decide +kernel
theorem dX4_powerless_15 : decode cX4_powerless 15 = .ok (.if_icmp .ge 33, 3) := by decide +kernel
theorem dX4_powerless_18 : decode cX4_powerless 18 = .ok (.iload_n 1, 1) := by decide +kernel
theorem dX4_powerless_19 : decode cX4_powerless 19 = .ok (.iload_n 3, 1) := by decide +kernel
theorem dX4_powerless_20 : decode cX4_powerless 20 = .ok (.invokestatic 44, 3) := by decide +kernel
theorem dX4_powerless_23 : decode cX4_powerless 23 = .ok (.iconst 1, 1) := by decide +kernel
theorem dX4_powerless_24 : decode cX4_powerless 24 = .ok (.if_icmp .ne 18, 3) := by decide +kernel
theorem dX4_powerless_27 : decode cX4_powerless 27 = .ok (.aload_n 0, 1) := by decide +kernel
theorem dX4_powerless_28 : decode cX4_powerless 28 = .ok (.iload_n 3, 1) := by decide +kernel
theorem dX4_powerless_29 : decode cX4_powerless 29 = .ok (.iload_n 1, 1) := by decide +kernel
theorem dX4_powerless_30 : decode cX4_powerless 30 = .ok (.invokevirtual 48, 3) := by decide +kernel
theorem dX4_powerless_33 : decode cX4_powerless 33 = .ok (.ifCond .ne 9, 3) := by decide +kernel
theorem dX4_powerless_36 : decode cX4_powerless 36 = .ok (.iload_n 2, 1) := by decide +kernel
theorem dX4_powerless_37 : decode cX4_powerless 37 = .ok (.iconst 1, 1) := by decide +kernel
theorem dX4_powerless_38 : decode cX4_powerless 38 = .ok (.iload_n 3, 1) := by decide +kernel
theorem dX4_powerless_39 : decode cX4_powerless 39 = .ok (.ishl, 1) := by decide +kernel
theorem dX4_powerless_40 : decode cX4_powerless 40 = .ok (.ior, 1) := by decide +kernel
theorem dX4_powerless_41 : decode cX4_powerless 41 = .ok (.istore_n 2, 1) := by decide +kernel
theorem dX4_powerless_42 : decode cX4_powerless 42 = .ok (.iinc 3 1, 3) := by decide +kernel
theorem dX4_powerless_45 : decode cX4_powerless 45 = .ok (.goto (-33), 3) := by decide +kernel
theorem dX4_powerless_48 : decode cX4_powerless 48 = .ok (.iload_n 2, 1) := by decide +kernel
theorem dX4_powerless_49 : decode cX4_powerless 49 = .ok (.ireturn, 1) := by decide +kernel
set_option maxRecDepth 20000 in
theorem ggX4_isLeast_X7_isWithin : GoodIn wsX4_isLeast wsX7_isWithin := goodIn_r _ [3] (by decide +kernel) (by decide +kernel)
set_option maxRecDepth 20000 in
theorem gX4_isLeast_X7_isWithin_n37 : GoodIn wsX4_isLeast (wsX7_isWithin) := ggX4_isLeast_X7_isWithin
set_option maxRecDepth 20000 in
theorem ggX4_isLeast_X4_carries : GoodIn wsX4_isLeast wsX4_carries := goodIn_r _ [8, 9, 10, 11, 12, 13, 14, 15, 16, 17, 18, 2, 19, 20, 21, 22, 23, 24, 25, 26, 27, 28, 29] (by decide +kernel) (by decide +kernel)
set_option maxRecDepth 20000 in
theorem gX4_isLeast_X4_carries : GoodIn wsX4_isLeast (wsV RX4 41 RX4 yX4_carries wsX4_carries) := goodIn_app (goodIn_of _ (by decide +kernel)) ggX4_isLeast_X4_carries
set_option maxRecDepth 20000 in
theorem ggX4_isLeast_X7_bit : GoodIn wsX4_isLeast wsX7_bit := goodIn_r _ [19] (by decide +kernel) (by decide +kernel)
set_option maxRecDepth 20000 in
theorem gX4_isLeast_X7_bit_n44 : GoodIn wsX4_isLeast (wsX7_bit) := ggX4_isLeast_X7_bit
theorem dX4_isLeast_0 : decode cX4_isLeast 0 = .ok (.iload_n 1, 1) := by decide +kernel
theorem dX4_isLeast_1 : decode cX4_isLeast 1 = .ok (.iload_n 2, 1) := by decide +kernel
theorem dX4_isLeast_2 : decode cX4_isLeast 2 = .ok (.invokestatic 37, 3) := by decide +kernel
theorem dX4_isLeast_5 : decode cX4_isLeast 5 = .ok (.ifCond .eq 12, 3) := by decide +kernel
theorem dX4_isLeast_8 : decode cX4_isLeast 8 = .ok (.aload_n 0, 1) := by decide +kernel
theorem dX4_isLeast_9 : decode cX4_isLeast 9 = .ok (.iload_n 1, 1) := by decide +kernel
theorem dX4_isLeast_10 : decode cX4_isLeast 10 = .ok (.iload_n 2, 1) := by decide +kernel
theorem dX4_isLeast_11 : decode cX4_isLeast 11 = .ok (.invokevirtual 41, 3) := by decide +kernel
theorem dX4_isLeast_14 : decode cX4_isLeast 14 = .ok (.ifCond .ne 5, 3) := by decide +kernel
theorem dX4_isLeast_17 : decode cX4_isLeast 17 = .ok (.iconst 0, 1) := by decide +kernel
theorem dX4_isLeast_18 : decode cX4_isLeast 18 = .ok (.ireturn, 1) := by decide +kernel
theorem dX4_isLeast_19 : decode cX4_isLeast 19 = .ok (.iconst 0, 1) := by decide +kernel
theorem dX4_isLeast_20 : decode cX4_isLeast 20 = .ok (.istore_n 3, 1) := by decide +kernel
theorem dX4_isLeast_21 : decode cX4_isLeast 21 = .ok (.iload_n 3, 1) := by decide +kernel
theorem dX4_isLeast_22 : decode cX4_isLeast 22 = .ok (.bipush 7, 2) := by decide +kernel
theorem dX4_isLeast_24 : decode cX4_isLeast 24 = .ok (.if_icmp .ge 35, 3) := by decide +kernel
theorem dX4_isLeast_27 : decode cX4_isLeast 27 = .ok (.iload_n 1, 1) := by decide +kernel
theorem dX4_isLeast_28 : decode cX4_isLeast 28 = .ok (.iload_n 3, 1) := by decide +kernel
theorem dX4_isLeast_29 : decode cX4_isLeast 29 = .ok (.invokestatic 44, 3) := by decide +kernel
theorem dX4_isLeast_32 : decode cX4_isLeast 32 = .ok (.iconst 1, 1) := by decide +kernel
theorem dX4_isLeast_33 : decode cX4_isLeast 33 = .ok (.if_icmp .ne 20, 3) := by decide +kernel
theorem dX4_isLeast_36 : decode cX4_isLeast 36 = .ok (.aload_n 0, 1) := by decide +kernel
theorem dX4_isLeast_37 : decode cX4_isLeast 37 = .ok (.iload_n 1, 1) := by decide +kernel
theorem dX4_isLeast_38 : decode cX4_isLeast 38 = .ok (.iconst 1, 1) := by decide +kernel
theorem dX4_isLeast_39 : decode cX4_isLeast 39 = .ok (.iload_n 3, 1) := by decide +kernel
theorem dX4_isLeast_40 : decode cX4_isLeast 40 = .ok (.ishl, 1) := by decide +kernel
theorem dX4_isLeast_41 : decode cX4_isLeast 41 = .ok (.iconst (-1), 1) := by decide +kernel
theorem dX4_isLeast_42 : decode cX4_isLeast 42 = .ok (.ixor, 1) := by decide +kernel
theorem dX4_isLeast_43 : decode cX4_isLeast 43 = .ok (.iand, 1) := by decide +kernel
theorem dX4_isLeast_44 : decode cX4_isLeast 44 = .ok (.iload_n 2, 1) := by decide +kernel
theorem dX4_isLeast_45 : decode cX4_isLeast 45 = .ok (.invokevirtual 41, 3) := by decide +kernel
theorem dX4_isLeast_48 : decode cX4_isLeast 48 = .ok (.ifCond .eq 5, 3) := by decide +kernel
theorem dX4_isLeast_51 : decode cX4_isLeast 51 = .ok (.iconst 0, 1) := by decide +kernel
theorem dX4_isLeast_52 : decode cX4_isLeast 52 = .ok (.ireturn, 1) := by decide +kernel
theorem dX4_isLeast_53 : decode cX4_isLeast 53 = .ok (.iinc 3 1, 3) := by decide +kernel
theorem dX4_isLeast_56 : decode cX4_isLeast 56 = .ok (.goto (-35), 3) := by decide +kernel
theorem dX4_isLeast_59 : decode cX4_isLeast 59 = .ok (.iconst 1, 1) := by decide +kernel
theorem dX4_isLeast_60 : decode cX4_isLeast 60 = .ok (.ireturn, 1) := by decide +kernel
set_option maxRecDepth 20000 in
theorem ggX4_leastSets_X6_voices : GoodIn wsX4_leastSets wsX6_voices := goodIn_r _ [6, 7, 8, 9, 10, 11, 5, 12, 13, 14, 15, 16, 17, 18, 19, 20, 21, 22, 23, 24, 25, 26, 27, 28, 29, 47, 48, 49, 50, 51, 52, 53, 54, 55, 56, 57, 58, 59, 60, 61, 62] (by decide +kernel) (by decide +kernel)
set_option maxRecDepth 20000 in
theorem gX4_leastSets_X6_voices : GoodIn wsX4_leastSets (wsV RX4 25 RX6 yX6_voices wsX6_voices) := goodIn_app (goodIn_of _ (by decide +kernel)) ggX4_leastSets_X6_voices
set_option maxRecDepth 20000 in
theorem ggX4_leastSets_X4_isLeast : GoodIn wsX4_leastSets wsX4_isLeast := goodIn_r _ [34, 35, 28, 36, 37, 38, 39, 33, 40, 1, 41, 42, 43, 5, 44, 17, 18, 45, 27, 29, 46, 47, 48, 56, 57, 58, 59, 60, 61, 62] (by decide +kernel) (by decide +kernel)
set_option maxRecDepth 20000 in
theorem gX4_leastSets_X4_isLeast : GoodIn wsX4_leastSets (wsV RX4 51 RX4 yX4_isLeast wsX4_isLeast) := goodIn_app (goodIn_of _ (by decide +kernel)) ggX4_leastSets_X4_isLeast
theorem dX4_leastSets_0 : decode cX4_leastSets 0 = .ok (.aload_n 0, 1) := by decide +kernel
theorem dX4_leastSets_1 : decode cX4_leastSets 1 = .ok (.getfield 9, 3) := by decide +kernel
theorem dX4_leastSets_4 : decode cX4_leastSets 4 = .ok (.invokevirtual 25, 3) := by decide +kernel
theorem dX4_leastSets_7 : decode cX4_leastSets 7 = .ok (.istore_n 1, 1) := by decide +kernel
theorem dX4_leastSets_8 : decode cX4_leastSets 8 = .ok (.iconst 0, 1) := by decide +kernel
theorem dX4_leastSets_9 : decode cX4_leastSets 9 = .ok (.istore_n 2, 1) := by decide +kernel
theorem dX4_leastSets_10 : decode cX4_leastSets 10 = .ok (.iconst 0, 1) := by decide +kernel
theorem dX4_leastSets_11 : decode cX4_leastSets 11 = .ok (.istore_n 3, 1) := by decide +kernel
theorem dX4_leastSets_12 : decode cX4_leastSets 12 = .ok (.iload_n 3, 1) := by decide +kernel
theorem dX4_leastSets_13 : decode cX4_leastSets 13 = .ok (.sipush 128, 3) := by decide +kernel
theorem dX4_leastSets_16 : decode cX4_leastSets 16 = .ok (.if_icmp .ge 21, 3) := by decide +kernel
theorem dX4_leastSets_19 : decode cX4_leastSets 19 = .ok (.aload_n 0, 1) := by decide +kernel
theorem dX4_leastSets_20 : decode cX4_leastSets 20 = .ok (.iload_n 3, 1) := by decide +kernel
theorem dX4_leastSets_21 : decode cX4_leastSets 21 = .ok (.iload_n 1, 1) := by decide +kernel
theorem dX4_leastSets_22 : decode cX4_leastSets 22 = .ok (.invokevirtual 51, 3) := by decide +kernel
theorem dX4_leastSets_25 : decode cX4_leastSets 25 = .ok (.ifCond .eq 6, 3) := by decide +kernel
theorem dX4_leastSets_28 : decode cX4_leastSets 28 = .ok (.iinc 2 1, 3) := by decide +kernel
theorem dX4_leastSets_31 : decode cX4_leastSets 31 = .ok (.iinc 3 1, 3) := by decide +kernel
theorem dX4_leastSets_34 : decode cX4_leastSets 34 = .ok (.goto (-22), 3) := by decide +kernel
theorem dX4_leastSets_37 : decode cX4_leastSets 37 = .ok (.iload_n 2, 1) := by decide +kernel
theorem dX4_leastSets_38 : decode cX4_leastSets 38 = .ok (.ireturn, 1) := by decide +kernel
set_option maxRecDepth 20000 in
theorem ggX4_firstLeastSet_X6_voices : GoodIn wsX4_firstLeastSet wsX6_voices := goodIn_r _ [6, 7, 8, 9, 10, 11, 5, 12, 13, 14, 15, 16, 17, 18, 19, 20, 21, 22, 23, 24, 25, 26, 27, 28, 29, 47, 48, 49, 50, 51, 52, 53, 54, 55, 56, 57, 58, 59, 60, 61, 62] (by decide +kernel) (by decide +kernel)
set_option maxRecDepth 20000 in
theorem gX4_firstLeastSet_X6_voices : GoodIn wsX4_firstLeastSet (wsV RX4 25 RX6 yX6_voices wsX6_voices) := goodIn_app (goodIn_of _ (by decide +kernel)) ggX4_firstLeastSet_X6_voices
set_option maxRecDepth 20000 in
theorem ggX4_firstLeastSet_X4_isLeast : GoodIn wsX4_firstLeastSet wsX4_isLeast := goodIn_r _ [34, 35, 28, 36, 37, 38, 39, 33, 40, 1, 41, 42, 43, 5, 44, 17, 18, 45, 27, 29, 46, 47, 48, 56, 57, 58, 59, 60, 61, 62] (by decide +kernel) (by decide +kernel)
set_option maxRecDepth 20000 in
theorem gX4_firstLeastSet_X4_isLeast : GoodIn wsX4_firstLeastSet (wsV RX4 51 RX4 yX4_isLeast wsX4_isLeast) := goodIn_app (goodIn_of _ (by decide +kernel)) ggX4_firstLeastSet_X4_isLeast
theorem dX4_firstLeastSet_0 : decode cX4_firstLeastSet 0 = .ok (.aload_n 0, 1) := by decide +kernel
theorem dX4_firstLeastSet_1 : decode cX4_firstLeastSet 1 = .ok (.getfield 9, 3) := by decide +kernel
theorem dX4_firstLeastSet_4 : decode cX4_firstLeastSet 4 = .ok (.invokevirtual 25, 3) := by decide +kernel
theorem dX4_firstLeastSet_7 : decode cX4_firstLeastSet 7 = .ok (.istore_n 1, 1) := by decide +kernel
theorem dX4_firstLeastSet_8 : decode cX4_firstLeastSet 8 = .ok (.iconst 0, 1) := by decide +kernel
theorem dX4_firstLeastSet_9 : decode cX4_firstLeastSet 9 = .ok (.istore_n 2, 1) := by decide +kernel
theorem dX4_firstLeastSet_10 : decode cX4_firstLeastSet 10 = .ok (.iload_n 2, 1) := by decide +kernel
theorem dX4_firstLeastSet_11 : decode cX4_firstLeastSet 11 = .ok (.sipush 128, 3) := by decide +kernel
theorem dX4_firstLeastSet_14 : decode cX4_firstLeastSet 14 = .ok (.if_icmp .ge 20, 3) := by decide +kernel
theorem dX4_firstLeastSet_17 : decode cX4_firstLeastSet 17 = .ok (.aload_n 0, 1) := by decide +kernel
theorem dX4_firstLeastSet_18 : decode cX4_firstLeastSet 18 = .ok (.iload_n 2, 1) := by decide +kernel
theorem dX4_firstLeastSet_19 : decode cX4_firstLeastSet 19 = .ok (.iload_n 1, 1) := by decide +kernel
theorem dX4_firstLeastSet_20 : decode cX4_firstLeastSet 20 = .ok (.invokevirtual 51, 3) := by decide +kernel
theorem dX4_firstLeastSet_23 : decode cX4_firstLeastSet 23 = .ok (.ifCond .eq 5, 3) := by decide +kernel
theorem dX4_firstLeastSet_26 : decode cX4_firstLeastSet 26 = .ok (.iload_n 2, 1) := by decide +kernel
theorem dX4_firstLeastSet_27 : decode cX4_firstLeastSet 27 = .ok (.ireturn, 1) := by decide +kernel
theorem dX4_firstLeastSet_28 : decode cX4_firstLeastSet 28 = .ok (.iinc 2 1, 3) := by decide +kernel
theorem dX4_firstLeastSet_31 : decode cX4_firstLeastSet 31 = .ok (.goto (-21), 3) := by decide +kernel
theorem dX4_firstLeastSet_34 : decode cX4_firstLeastSet 34 = .ok (.bipush (-9), 2) := by decide +kernel
theorem dX4_firstLeastSet_36 : decode cX4_firstLeastSet 36 = .ok (.ireturn, 1) := by decide +kernel
theorem dX5_init_0 : decode cX5_init 0 = .ok (.aload_n 0, 1) := by decide +kernel
theorem dX5_init_1 : decode cX5_init 1 = .ok (.invokespecial 3, 3) := by decide +kernel
theorem dX5_init_4 : decode cX5_init 4 = .ok (.aload_n 0, 1) := by decide +kernel
theorem dX5_init_5 : decode cX5_init 5 = .ok (.iconst 0, 1) := by decide +kernel
theorem dX5_init_6 : decode cX5_init 6 = .ok (.putfield 9, 3) := by decide +kernel
theorem dX5_init_9 : decode cX5_init 9 = .ok (.aload_n 0, 1) := by decide +kernel
theorem dX5_init_10 : decode cX5_init 10 = .ok (.iconst 0, 1) := by decide +kernel
theorem dX5_init_11 : decode cX5_init 11 = .ok (.putfield 15, 3) := by decide +kernel
theorem dX5_init_14 : decode cX5_init 14 = .ok (.aload_n 0, 1) := by decide +kernel
theorem dX5_init_15 : decode cX5_init 15 = .ok (.iconst (-1), 1) := by decide +kernel
theorem dX5_init_16 : decode cX5_init 16 = .ok (.putfield 18, 3) := by decide +kernel
theorem dX5_init_19 : decode cX5_init 19 = .ok (.aload_n 0, 1) := by decide +kernel
theorem dX5_init_20 : decode cX5_init 20 = .ok (.iconst 0, 1) := by decide +kernel
theorem dX5_init_21 : decode cX5_init 21 = .ok (.putfield 21, 3) := by decide +kernel
theorem dX5_init_24 : decode cX5_init 24 = .ok (.aload_n 0, 1) := by decide +kernel
theorem dX5_init_25 : decode cX5_init 25 = .ok (.iconst 0, 1) := by decide +kernel
theorem dX5_init_26 : decode cX5_init 26 = .ok (.putfield 24, 3) := by decide +kernel
theorem dX5_init_29 : decode cX5_init 29 = .ok (.aload_n 0, 1) := by decide +kernel
theorem dX5_init_30 : decode cX5_init 30 = .ok (.iconst (-1), 1) := by decide +kernel
theorem dX5_init_31 : decode cX5_init 31 = .ok (.putfield 27, 3) := by decide +kernel
theorem dX5_init_34 : decode cX5_init 34 = .ok (.aload_n 0, 1) := by decide +kernel
theorem dX5_init_35 : decode cX5_init 35 = .ok (.iconst 0, 1) := by decide +kernel
theorem dX5_init_36 : decode cX5_init 36 = .ok (.putfield 30, 3) := by decide +kernel
theorem dX5_init_39 : decode cX5_init 39 = .ok (.aload_n 0, 1) := by decide +kernel
theorem dX5_init_40 : decode cX5_init 40 = .ok (.aload_n 1, 1) := by decide +kernel
theorem dX5_init_41 : decode cX5_init 41 = .ok (.putfield 34, 3) := by decide +kernel
theorem dX5_init_44 : decode cX5_init 44 = .ok (.aload_n 0, 1) := by decide +kernel
theorem dX5_init_45 : decode cX5_init 45 = .ok (.aload_n 2, 1) := by decide +kernel
theorem dX5_init_46 : decode cX5_init 46 = .ok (.putfield 38, 3) := by decide +kernel
theorem dX5_init_49 : decode cX5_init 49 = .ok (.return_, 1) := by decide +kernel
set_option maxRecDepth 20000 in
theorem ggX5_readText_X5_begin : GoodIn wsX5_readText wsX5_begin := goodIn_r _ [7, 8, 9, 10, 11, 12, 13, 14, 2, 15, 16, 17, 18, 19, 20, 21, 22, 23, 24, 25, 26, 27, 6, 28, 29, 1, 30, 31, 32, 33, 34, 35, 36, 37, 73, 74, 75, 76, 77, 78, 79, 80, 81, 82, 83, 84, 85, 86, 87, 88] (by decide +kernel) (by decide +kernel)
set_option maxRecDepth 20000 in
theorem gX5_readText_X5_begin : GoodIn wsX5_readText (wsV RX5 42 RX5 yX5_begin wsX5_begin) := goodIn_app (goodIn_of _ (by decide +kernel)) ggX5_readText_X5_begin
set_option maxRecDepth 20000 in
theorem ggX5_readText_X5_readOfficers : GoodIn wsX5_readText wsX5_readOfficers := goodIn_r _ [41, 16, 42, 43, 44, 45, 6, 46, 2, 29, 47, 48, 49, 50, 1, 37, 25, 26, 27, 28, 14, 13, 8, 30, 31, 32, 33, 34, 35, 36, 9, 10, 11, 12, 73, 74, 75, 76, 77, 78, 79, 80, 81, 82, 83, 84, 85, 86, 87, 88] (by decide +kernel) (by decide +kernel)
set_option maxRecDepth 20000 in
theorem gX5_readText_X5_readOfficers : GoodIn wsX5_readText (wsV RX5 46 RX5 yX5_readOfficers wsX5_readOfficers) := goodIn_app (goodIn_of _ (by decide +kernel)) ggX5_readText_X5_readOfficers
set_option maxRecDepth 20000 in
theorem ggX5_readText_X5_readThing : GoodIn wsX5_readText wsX5_readThing := goodIn_r _ [54, 16, 55, 42, 43, 44, 45, 6, 46, 2, 29, 47, 48, 49, 50, 1, 37, 25, 26, 27, 28, 14, 13, 8, 30, 31, 32, 33, 34, 35, 36, 9, 10, 11, 12, 56, 57, 58, 20, 59, 22, 60, 61, 62, 63, 73, 74, 75, 76, 77, 78, 79, 80, 81, 82, 83, 84, 85, 86, 87, 88] (by decide +kernel) (by decide +kernel)
set_option maxRecDepth 20000 in
theorem gX5_readText_X5_readThing : GoodIn wsX5_readText (wsV RX5 49 RX5 yX5_readThing wsX5_readThing) := goodIn_app (goodIn_of _ (by decide +kernel)) ggX5_readText_X5_readThing
set_option maxRecDepth 20000 in
theorem ggX5_readText_X5_readWarmth : GoodIn wsX5_readText wsX5_readWarmth := goodIn_r _ [67, 15, 16, 68, 43, 44, 45, 6, 46, 2, 29, 47, 48, 49, 50, 1, 37, 25, 26, 27, 28, 14, 13, 8, 30, 31, 32, 33, 34, 35, 36, 9, 10, 11, 12, 73, 74, 75, 76, 77, 78, 79, 80, 81, 82, 83, 84, 85, 86, 87, 88] (by decide +kernel) (by decide +kernel)
set_option maxRecDepth 20000 in
theorem gX5_readText_X5_readWarmth : GoodIn wsX5_readText (wsV RX5 52 RX5 yX5_readWarmth wsX5_readWarmth) := goodIn_app (goodIn_of _ (by decide +kernel)) ggX5_readText_X5_readWarmth
set_option maxRecDepth 20000 in
theorem ggX5_readText_X5_markFault : GoodIn wsX5_readText wsX5_markFault := goodIn_r _ [46, 2, 29, 73, 74, 75, 76, 77, 78, 79, 80, 81] (by decide +kernel) (by decide +kernel)
set_option maxRecDepth 20000 in
theorem gX5_readText_X5_markFault : GoodIn wsX5_readText (wsV RX5 55 RX5 yX5_markFault wsX5_markFault) := goodIn_app (goodIn_of _ (by decide +kernel)) ggX5_readText_X5_markFault
set_option maxRecDepth 20000 in
theorem ggX5_readText_X5_readItemEnd : GoodIn wsX5_readText wsX5_readItemEnd := goodIn_r _ [72, 1, 25, 26, 27, 6, 28, 14, 13, 8, 29, 30, 31, 32, 33, 34, 35, 36, 37, 9, 10, 11, 12, 43, 44, 45, 46, 2, 73, 74, 75, 76, 77, 78, 79, 80, 81] (by decide +kernel) (by decide +kernel)
set_option maxRecDepth 20000 in
theorem gX5_readText_X5_readItemEnd : GoodIn wsX5_readText (wsV RX5 58 RX5 yX5_readItemEnd wsX5_readItemEnd) := goodIn_app (goodIn_of _ (by decide +kernel)) ggX5_readText_X5_readItemEnd
set_option maxRecDepth 20000 in
theorem ggX5_readText_X5_nextToken : GoodIn wsX5_readText wsX5_nextToken := goodIn_r _ [28, 14, 13, 8, 29, 1, 30, 31, 6, 32, 33, 34, 35, 36, 37, 9, 10, 11, 12, 73, 74, 75, 76, 77, 78, 79, 80, 81] (by decide +kernel) (by decide +kernel)
set_option maxRecDepth 20000 in
theorem gX5_readText_X5_nextToken : GoodIn wsX5_readText (wsV RX5 61 RX5 yX5_nextToken wsX5_nextToken) := goodIn_app (goodIn_of _ (by decide +kernel)) ggX5_readText_X5_nextToken
theorem dX5_readText_0 : decode cX5_readText 0 = .ok (.aload_n 0, 1) := by decide +kernel
theorem dX5_readText_1 : decode cX5_readText 1 = .ok (.iload_n 1, 1) := by decide +kernel
theorem dX5_readText_2 : decode cX5_readText 2 = .ok (.invokevirtual 42, 3) := by decide +kernel
theorem dX5_readText_5 : decode cX5_readText 5 = .ok (.iconst 0, 1) := by decide +kernel
theorem dX5_readText_6 : decode cX5_readText 6 = .ok (.istore_n 2, 1) := by decide +kernel
theorem dX5_readText_7 : decode cX5_readText 7 = .ok (.aload_n 0, 1) := by decide +kernel
theorem dX5_readText_8 : decode cX5_readText 8 = .ok (.getfield 18, 3) := by decide +kernel
theorem dX5_readText_11 : decode cX5_readText 11 = .ok (.iconst (-1), 1) := by decide +kernel
theorem dX5_readText_12 : decode cX5_readText 12 = .ok (.if_icmp .eq 96, 3) := by decide +kernel
theorem dX5_readText_15 : decode cX5_readText 15 = .ok (.aload_n 0, 1) := by decide +kernel
theorem dX5_readText_16 : decode cX5_readText 16 = .ok (.getfield 27, 3) := by decide +kernel
theorem dX5_readText_19 : decode cX5_readText 19 = .ok (.iconst (-1), 1) := by decide +kernel
theorem dX5_readText_20 : decode cX5_readText 20 = .ok (.if_icmp .ne 88, 3) := by decide +kernel
theorem dX5_readText_23 : decode cX5_readText 23 = .ok (.iload_n 2, 1) := by decide +kernel
theorem dX5_readText_24 : decode cX5_readText 24 = .ok (.sipush 200, 3) := by decide +kernel
theorem dX5_readText_27 : decode cX5_readText 27 = .ok (.if_icmp .gt 81, 3) := by decide +kernel
theorem dX5_readText_30 : decode cX5_readText 30 = .ok (.aload_n 0, 1) := by decide +kernel
theorem dX5_readText_31 : decode cX5_readText 31 = .ok (.getfield 18, 3) := by decide +kernel
theorem dX5_readText_34 : decode cX5_readText 34 = .ok (.lookupswitch 56 #[(111, 34), (116, 42), (119, 49)], 34) := by decide +kernel
theorem dX5_readText_68 : decode cX5_readText 68 = .ok (.aload_n 0, 1) := by decide +kernel
theorem dX5_readText_69 : decode cX5_readText 69 = .ok (.iload_n 2, 1) := by decide +kernel
theorem dX5_readText_70 : decode cX5_readText 70 = .ok (.invokevirtual 46, 3) := by decide +kernel
theorem dX5_readText_73 : decode cX5_readText 73 = .ok (.goto 21, 3) := by decide +kernel
theorem dX5_readText_76 : decode cX5_readText 76 = .ok (.aload_n 0, 1) := by decide +kernel
theorem dX5_readText_77 : decode cX5_readText 77 = .ok (.invokevirtual 49, 3) := by decide +kernel
theorem dX5_readText_80 : decode cX5_readText 80 = .ok (.goto 14, 3) := by decide +kernel
theorem dX5_readText_83 : decode cX5_readText 83 = .ok (.aload_n 0, 1) := by decide +kernel
theorem dX5_readText_84 : decode cX5_readText 84 = .ok (.invokevirtual 52, 3) := by decide +kernel
theorem dX5_readText_87 : decode cX5_readText 87 = .ok (.goto 7, 3) := by decide +kernel
theorem dX5_readText_90 : decode cX5_readText 90 = .ok (.aload_n 0, 1) := by decide +kernel
theorem dX5_readText_91 : decode cX5_readText 91 = .ok (.invokevirtual 55, 3) := by decide +kernel
theorem dX5_readText_94 : decode cX5_readText 94 = .ok (.aload_n 0, 1) := by decide +kernel
theorem dX5_readText_95 : decode cX5_readText 95 = .ok (.invokevirtual 58, 3) := by decide +kernel
theorem dX5_readText_98 : decode cX5_readText 98 = .ok (.iinc 2 1, 3) := by decide +kernel
theorem dX5_readText_101 : decode cX5_readText 101 = .ok (.aload_n 0, 1) := by decide +kernel
theorem dX5_readText_102 : decode cX5_readText 102 = .ok (.invokevirtual 61, 3) := by decide +kernel
theorem dX5_readText_105 : decode cX5_readText 105 = .ok (.goto (-98), 3) := by decide +kernel
theorem dX5_readText_108 : decode cX5_readText 108 = .ok (.aload_n 0, 1) := by decide +kernel
theorem dX5_readText_109 : decode cX5_readText 109 = .ok (.getfield 27, 3) := by decide +kernel
theorem dX5_readText_112 : decode cX5_readText 112 = .ok (.iconst (-1), 1) := by decide +kernel
theorem dX5_readText_113 : decode cX5_readText 113 = .ok (.if_icmp .ne 7, 3) := by decide +kernel
theorem dX5_readText_116 : decode cX5_readText 116 = .ok (.iload_n 2, 1) := by decide +kernel
theorem dX5_readText_117 : decode cX5_readText 117 = .ok (.goto 10, 3) := by decide +kernel
theorem dX5_readText_120 : decode cX5_readText 120 = .ok (.bipush (-10), 2) := by decide +kernel
theorem dX5_readText_122 : decode cX5_readText 122 = .ok (.aload_n 0, 1) := by decide +kernel
theorem dX5_readText_123 : decode cX5_readText 123 = .ok (.getfield 27, 3) := by decide +kernel
theorem dX5_readText_126 : decode cX5_readText 126 = .ok (.isub, 1) := by decide +kernel
theorem dX5_readText_127 : decode cX5_readText 127 = .ok (.ireturn, 1) := by decide +kernel
set_option maxRecDepth 20000 in
theorem ggX5_begin_X0_beginAnew : GoodIn wsX5_begin wsX0_beginAnew := goodIn_r _ [15, 16, 17, 18, 43, 44, 45, 46, 47, 48, 49] (by decide +kernel) (by decide +kernel)
set_option maxRecDepth 20000 in
theorem gX5_begin_X0_beginAnew : GoodIn wsX5_begin (wsV RX5 70 RX0 yX0_beginAnew wsX0_beginAnew) := goodIn_app (goodIn_of _ (by decide +kernel)) ggX5_begin_X0_beginAnew
set_option maxRecDepth 20000 in
theorem ggX5_begin_X5_nextToken : GoodIn wsX5_begin wsX5_nextToken := goodIn_r _ [23, 7, 6, 1, 24, 25, 26, 27, 22, 28, 29, 30, 31, 32, 33, 2, 3, 4, 5, 34, 35, 36, 37, 38, 39, 40, 41, 42] (by decide +kernel) (by decide +kernel)
set_option maxRecDepth 20000 in
theorem gX5_begin_X5_nextToken : GoodIn wsX5_begin (wsV RX5 61 RX5 yX5_nextToken wsX5_nextToken) := goodIn_app (goodIn_of _ (by decide +kernel)) ggX5_begin_X5_nextToken
theorem dX5_begin_0 : decode cX5_begin 0 = .ok (.aload_n 0, 1) := by decide +kernel
theorem dX5_begin_1 : decode cX5_begin 1 = .ok (.iload_n 1, 1) := by decide +kernel
theorem dX5_begin_2 : decode cX5_begin 2 = .ok (.aload_n 0, 1) := by decide +kernel
theorem dX5_begin_3 : decode cX5_begin 3 = .ok (.getfield 34, 3) := by decide +kernel
theorem dX5_begin_6 : decode cX5_begin 6 = .ok (.arraylength, 1) := by decide +kernel
theorem dX5_begin_7 : decode cX5_begin 7 = .ok (.invokestatic 64, 3) := by decide +kernel
theorem dX5_begin_10 : decode cX5_begin 10 = .ok (.putfield 9, 3) := by decide +kernel
theorem dX5_begin_13 : decode cX5_begin 13 = .ok (.aload_n 0, 1) := by decide +kernel
theorem dX5_begin_14 : decode cX5_begin 14 = .ok (.iconst 0, 1) := by decide +kernel
theorem dX5_begin_15 : decode cX5_begin 15 = .ok (.putfield 15, 3) := by decide +kernel
theorem dX5_begin_18 : decode cX5_begin 18 = .ok (.aload_n 0, 1) := by decide +kernel
theorem dX5_begin_19 : decode cX5_begin 19 = .ok (.iconst (-1), 1) := by decide +kernel
theorem dX5_begin_20 : decode cX5_begin 20 = .ok (.putfield 27, 3) := by decide +kernel
theorem dX5_begin_23 : decode cX5_begin 23 = .ok (.aload_n 0, 1) := by decide +kernel
theorem dX5_begin_24 : decode cX5_begin 24 = .ok (.iconst 0, 1) := by decide +kernel
theorem dX5_begin_25 : decode cX5_begin 25 = .ok (.putfield 30, 3) := by decide +kernel
theorem dX5_begin_28 : decode cX5_begin 28 = .ok (.aload_n 0, 1) := by decide +kernel
theorem dX5_begin_29 : decode cX5_begin 29 = .ok (.getfield 38, 3) := by decide +kernel
theorem dX5_begin_32 : decode cX5_begin 32 = .ok (.invokevirtual 70, 3) := by decide +kernel
theorem dX5_begin_35 : decode cX5_begin 35 = .ok (.aload_n 0, 1) := by decide +kernel
theorem dX5_begin_36 : decode cX5_begin 36 = .ok (.invokevirtual 61, 3) := by decide +kernel
theorem dX5_begin_39 : decode cX5_begin 39 = .ok (.return_, 1) := by decide +kernel
set_option maxRecDepth 20000 in
theorem ggX5_readItemEnd_X5_nextToken : GoodIn wsX5_readItemEnd wsX5_nextToken := goodIn_r _ [6, 7, 8, 9, 10, 1, 11, 12, 5, 13, 14, 15, 16, 17, 18, 19, 20, 21, 22, 28, 29, 30, 31, 32, 33, 34, 35, 36] (by decide +kernel) (by decide +kernel)
set_option maxRecDepth 20000 in
theorem gX5_readItemEnd_X5_nextToken : GoodIn wsX5_readItemEnd (wsV RX5 61 RX5 yX5_nextToken wsX5_nextToken) := goodIn_app (goodIn_of _ (by decide +kernel)) ggX5_readItemEnd_X5_nextToken
set_option maxRecDepth 20000 in
theorem ggX5_readItemEnd_X5_markFault : GoodIn wsX5_readItemEnd wsX5_markFault := goodIn_r _ [26, 27, 10, 28, 29, 30, 31, 32, 33, 34, 35, 36] (by decide +kernel) (by decide +kernel)
set_option maxRecDepth 20000 in
theorem gX5_readItemEnd_X5_markFault : GoodIn wsX5_readItemEnd (wsV RX5 55 RX5 yX5_markFault wsX5_markFault) := goodIn_app (goodIn_of _ (by decide +kernel)) ggX5_readItemEnd_X5_markFault
theorem dX5_readItemEnd_0 : decode cX5_readItemEnd 0 = .ok (.aload_n 0, 1) := by decide +kernel
theorem dX5_readItemEnd_1 : decode cX5_readItemEnd 1 = .ok (.invokevirtual 61, 3) := by decide +kernel
theorem dX5_readItemEnd_4 : decode cX5_readItemEnd 4 = .ok (.aload_n 0, 1) := by decide +kernel
theorem dX5_readItemEnd_5 : decode cX5_readItemEnd 5 = .ok (.getfield 18, 3) := by decide +kernel
theorem dX5_readItemEnd_8 : decode cX5_readItemEnd 8 = .ok (.bipush 59, 2) := by decide +kernel
theorem dX5_readItemEnd_10 : decode cX5_readItemEnd 10 = .ok (.if_icmp .eq 7, 3) := by decide +kernel
theorem dX5_readItemEnd_13 : decode cX5_readItemEnd 13 = .ok (.aload_n 0, 1) := by decide +kernel
theorem dX5_readItemEnd_14 : decode cX5_readItemEnd 14 = .ok (.invokevirtual 55, 3) := by decide +kernel
theorem dX5_readItemEnd_17 : decode cX5_readItemEnd 17 = .ok (.return_, 1) := by decide +kernel
set_option maxRecDepth 20000 in
theorem ggX5_readOfficers_X5_markFault : GoodIn wsX5_readOfficers wsX5_markFault := goodIn_r _ [7, 8, 9, 34, 35, 36, 37, 38, 39, 40, 41, 42] (by decide +kernel) (by decide +kernel)
set_option maxRecDepth 20000 in
theorem gX5_readOfficers_X5_markFault : GoodIn wsX5_readOfficers (wsV RX5 55 RX5 yX5_markFault wsX5_markFault) := goodIn_app (goodIn_of _ (by decide +kernel)) ggX5_readOfficers_X5_markFault
set_option maxRecDepth 20000 in
theorem ggX5_readOfficers_X5_readNumber : GoodIn wsX5_readOfficers wsX5_readNumber := goodIn_r _ [13, 14, 15, 16, 17, 18, 6, 19, 20, 21, 22, 9, 23, 24, 25, 26, 27, 28, 29, 30, 31, 32, 33, 3, 4, 5, 7, 8, 34, 35, 36, 37, 38, 39, 40, 41, 42] (by decide +kernel) (by decide +kernel)
set_option maxRecDepth 20000 in
theorem gX5_readOfficers_X5_readNumber : GoodIn wsX5_readOfficers (wsV RX5 75 RX5 yX5_readNumber wsX5_readNumber) := goodIn_app (goodIn_of _ (by decide +kernel)) ggX5_readOfficers_X5_readNumber
theorem dX5_readOfficers_0 : decode cX5_readOfficers 0 = .ok (.iload_n 1, 1) := by decide +kernel
theorem dX5_readOfficers_1 : decode cX5_readOfficers 1 = .ok (.ifCond .le 7, 3) := by decide +kernel
theorem dX5_readOfficers_4 : decode cX5_readOfficers 4 = .ok (.aload_n 0, 1) := by decide +kernel
theorem dX5_readOfficers_5 : decode cX5_readOfficers 5 = .ok (.invokevirtual 55, 3) := by decide +kernel
theorem dX5_readOfficers_8 : decode cX5_readOfficers 8 = .ok (.aload_n 0, 1) := by decide +kernel
theorem dX5_readOfficers_9 : decode cX5_readOfficers 9 = .ok (.getfield 38, 3) := by decide +kernel
theorem dX5_readOfficers_12 : decode cX5_readOfficers 12 = .ok (.aload_n 0, 1) := by decide +kernel
theorem dX5_readOfficers_13 : decode cX5_readOfficers 13 = .ok (.iconst 1, 1) := by decide +kernel
theorem dX5_readOfficers_14 : decode cX5_readOfficers 14 = .ok (.iconst 5, 1) := by decide +kernel
theorem dX5_readOfficers_15 : decode cX5_readOfficers 15 = .ok (.invokevirtual 75, 3) := by decide +kernel
theorem dX5_readOfficers_18 : decode cX5_readOfficers 18 = .ok (.putfield 78, 3) := by decide +kernel
theorem dX5_readOfficers_21 : decode cX5_readOfficers 21 = .ok (.return_, 1) := by decide +kernel
set_option maxRecDepth 20000 in
theorem ggX5_readThing_X5_markFault : GoodIn wsX5_readThing wsX5_markFault := goodIn_r _ [8, 9, 10, 45, 46, 47, 48, 49, 50, 51, 52, 53] (by decide +kernel) (by decide +kernel)
set_option maxRecDepth 20000 in
theorem gX5_readThing_X5_markFault : GoodIn wsX5_readThing (wsV RX5 55 RX5 yX5_markFault wsX5_markFault) := goodIn_app (goodIn_of _ (by decide +kernel)) ggX5_readThing_X5_markFault
set_option maxRecDepth 20000 in
theorem ggX5_readThing_X5_readNumber : GoodIn wsX5_readThing wsX5_readNumber := goodIn_r _ [14, 15, 16, 17, 18, 19, 7, 20, 21, 22, 23, 10, 24, 25, 26, 27, 28, 29, 30, 31, 32, 33, 34, 4, 5, 6, 8, 9, 45, 46, 47, 48, 49, 50, 51, 52, 53] (by decide +kernel) (by decide +kernel)
set_option maxRecDepth 20000 in
theorem gX5_readThing_X5_readNumber : GoodIn wsX5_readThing (wsV RX5 75 RX5 yX5_readNumber wsX5_readNumber) := goodIn_app (goodIn_of _ (by decide +kernel)) ggX5_readThing_X5_readNumber
set_option maxRecDepth 20000 in
theorem ggX5_readThing_X0_addThing : GoodIn wsX5_readThing wsX0_addThing := goodIn_r _ [39, 40, 41, 42, 43, 44, 54, 55, 56, 57, 58, 59, 60] (by decide +kernel) (by decide +kernel)
set_option maxRecDepth 20000 in
theorem gX5_readThing_X0_addThing : GoodIn wsX5_readThing (wsV RX5 84 RX0 yX0_addThing wsX0_addThing) := goodIn_app (goodIn_of _ (by decide +kernel)) ggX5_readThing_X0_addThing
theorem dX5_readThing_0 : decode cX5_readThing 0 = .ok (.aload_n 0, 1) := by decide +kernel
theorem dX5_readThing_1 : decode cX5_readThing 1 = .ok (.getfield 38, 3) := by decide +kernel
theorem dX5_readThing_4 : decode cX5_readThing 4 = .ok (.getfield 81, 3) := by decide +kernel
theorem dX5_readThing_7 : decode cX5_readThing 7 = .ok (.bipush 7, 2) := by decide +kernel
theorem dX5_readThing_9 : decode cX5_readThing 9 = .ok (.if_icmp .lt 7, 3) := by decide +kernel
theorem dX5_readThing_12 : decode cX5_readThing 12 = .ok (.aload_n 0, 1) := by decide +kernel
theorem dX5_readThing_13 : decode cX5_readThing 13 = .ok (.invokevirtual 55, 3) := by decide +kernel
theorem dX5_readThing_16 : decode cX5_readThing 16 = .ok (.aload_n 0, 1) := by decide +kernel
theorem dX5_readThing_17 : decode cX5_readThing 17 = .ok (.iconst 0, 1) := by decide +kernel
theorem dX5_readThing_18 : decode cX5_readThing 18 = .ok (.iconst 3, 1) := by decide +kernel
theorem dX5_readThing_19 : decode cX5_readThing 19 = .ok (.invokevirtual 75, 3) := by decide +kernel
theorem dX5_readThing_22 : decode cX5_readThing 22 = .ok (.istore_n 1, 1) := by decide +kernel
theorem dX5_readThing_23 : decode cX5_readThing 23 = .ok (.aload_n 0, 1) := by decide +kernel
theorem dX5_readThing_24 : decode cX5_readThing 24 = .ok (.iconst 1, 1) := by decide +kernel
theorem dX5_readThing_25 : decode cX5_readThing 25 = .ok (.bipush 9, 2) := by decide +kernel
theorem dX5_readThing_27 : decode cX5_readThing 27 = .ok (.invokevirtual 75, 3) := by decide +kernel
theorem dX5_readThing_30 : decode cX5_readThing 30 = .ok (.istore_n 2, 1) := by decide +kernel
theorem dX5_readThing_31 : decode cX5_readThing 31 = .ok (.aload_n 0, 1) := by decide +kernel
theorem dX5_readThing_32 : decode cX5_readThing 32 = .ok (.iconst 0, 1) := by decide +kernel
theorem dX5_readThing_33 : decode cX5_readThing 33 = .ok (.bipush 31, 2) := by decide +kernel
theorem dX5_readThing_35 : decode cX5_readThing 35 = .ok (.invokevirtual 75, 3) := by decide +kernel
theorem dX5_readThing_38 : decode cX5_readThing 38 = .ok (.istore_n 3, 1) := by decide +kernel
theorem dX5_readThing_39 : decode cX5_readThing 39 = .ok (.aload_n 0, 1) := by decide +kernel
theorem dX5_readThing_40 : decode cX5_readThing 40 = .ok (.iconst 0, 1) := by decide +kernel
theorem dX5_readThing_41 : decode cX5_readThing 41 = .ok (.aload_n 0, 1) := by decide +kernel
theorem dX5_readThing_42 : decode cX5_readThing 42 = .ok (.getfield 38, 3) := by decide +kernel
theorem dX5_readThing_45 : decode cX5_readThing 45 = .ok (.getfield 78, 3) := by decide +kernel
theorem dX5_readThing_48 : decode cX5_readThing 48 = .ok (.iconst 1, 1) := by decide +kernel
theorem dX5_readThing_49 : decode cX5_readThing 49 = .ok (.isub, 1) := by decide +kernel
theorem dX5_readThing_50 : decode cX5_readThing 50 = .ok (.invokevirtual 75, 3) := by decide +kernel
theorem dX5_readThing_53 : decode cX5_readThing 53 = .ok (.istore 4, 2) := by decide +kernel
theorem dX5_readThing_55 : decode cX5_readThing 55 = .ok (.aload_n 0, 1) := by decide +kernel
theorem dX5_readThing_56 : decode cX5_readThing 56 = .ok (.getfield 38, 3) := by decide +kernel
theorem dX5_readThing_59 : decode cX5_readThing 59 = .ok (.iload_n 1, 1) := by decide +kernel
theorem dX5_readThing_60 : decode cX5_readThing 60 = .ok (.iload_n 2, 1) := by decide +kernel
theorem dX5_readThing_61 : decode cX5_readThing 61 = .ok (.iload_n 3, 1) := by decide +kernel
theorem dX5_readThing_62 : decode cX5_readThing 62 = .ok (.iload 4, 2) := by decide +kernel
theorem dX5_readThing_64 : decode cX5_readThing 64 = .ok (.invokevirtual 84, 3) := by decide +kernel
theorem dX5_readThing_67 : decode cX5_readThing 67 = .ok (.return_, 1) := by decide +kernel
set_option maxRecDepth 20000 in
theorem ggX5_readWarmth_X5_markFault : GoodIn wsX5_readWarmth wsX5_markFault := goodIn_r _ [8, 9, 10, 35, 36, 37, 38, 39, 40, 41, 42, 43] (by decide +kernel) (by decide +kernel)
set_option maxRecDepth 20000 in
theorem gX5_readWarmth_X5_markFault : GoodIn wsX5_readWarmth (wsV RX5 55 RX5 yX5_markFault wsX5_markFault) := goodIn_app (goodIn_of _ (by decide +kernel)) ggX5_readWarmth_X5_markFault
set_option maxRecDepth 20000 in
theorem ggX5_readWarmth_X5_readNumber : GoodIn wsX5_readWarmth wsX5_readNumber := goodIn_r _ [14, 15, 16, 17, 18, 19, 7, 20, 21, 22, 23, 10, 24, 25, 26, 27, 28, 29, 30, 31, 32, 33, 34, 4, 5, 6, 8, 9, 35, 36, 37, 38, 39, 40, 41, 42, 43] (by decide +kernel) (by decide +kernel)
set_option maxRecDepth 20000 in
theorem gX5_readWarmth_X5_readNumber : GoodIn wsX5_readWarmth (wsV RX5 75 RX5 yX5_readNumber wsX5_readNumber) := goodIn_app (goodIn_of _ (by decide +kernel)) ggX5_readWarmth_X5_readNumber
theorem dX5_readWarmth_0 : decode cX5_readWarmth 0 = .ok (.aload_n 0, 1) := by decide +kernel
theorem dX5_readWarmth_1 : decode cX5_readWarmth 1 = .ok (.getfield 30, 3) := by decide +kernel
theorem dX5_readWarmth_4 : decode cX5_readWarmth 4 = .ok (.ifCond .eq 7, 3) := by decide +kernel
theorem dX5_readWarmth_7 : decode cX5_readWarmth 7 = .ok (.aload_n 0, 1) := by decide +kernel
theorem dX5_readWarmth_8 : decode cX5_readWarmth 8 = .ok (.invokevirtual 55, 3) := by decide +kernel
theorem dX5_readWarmth_11 : decode cX5_readWarmth 11 = .ok (.aload_n 0, 1) := by decide +kernel
theorem dX5_readWarmth_12 : decode cX5_readWarmth 12 = .ok (.iconst 1, 1) := by decide +kernel
theorem dX5_readWarmth_13 : decode cX5_readWarmth 13 = .ok (.putfield 30, 3) := by decide +kernel
theorem dX5_readWarmth_16 : decode cX5_readWarmth 16 = .ok (.aload_n 0, 1) := by decide +kernel
theorem dX5_readWarmth_17 : decode cX5_readWarmth 17 = .ok (.getfield 38, 3) := by decide +kernel
theorem dX5_readWarmth_20 : decode cX5_readWarmth 20 = .ok (.aload_n 0, 1) := by decide +kernel
theorem dX5_readWarmth_21 : decode cX5_readWarmth 21 = .ok (.iconst 0, 1) := by decide +kernel
theorem dX5_readWarmth_22 : decode cX5_readWarmth 22 = .ok (.bipush 9, 2) := by decide +kernel
theorem dX5_readWarmth_24 : decode cX5_readWarmth 24 = .ok (.invokevirtual 75, 3) := by decide +kernel
theorem dX5_readWarmth_27 : decode cX5_readWarmth 27 = .ok (.putfield 88, 3) := by decide +kernel
theorem dX5_readWarmth_30 : decode cX5_readWarmth 30 = .ok (.return_, 1) := by decide +kernel
set_option maxRecDepth 20000 in
theorem ggX5_readNumber_X5_nextToken : GoodIn wsX5_readNumber wsX5_nextToken := goodIn_r _ [7, 8, 9, 10, 11, 1, 12, 13, 6, 14, 15, 16, 17, 18, 2, 19, 20, 21, 22, 28, 29, 30, 31, 32, 33, 34, 35, 36] (by decide +kernel) (by decide +kernel)
set_option maxRecDepth 20000 in
theorem gX5_readNumber_X5_nextToken : GoodIn wsX5_readNumber (wsV RX5 61 RX5 yX5_nextToken wsX5_nextToken) := goodIn_app (goodIn_of _ (by decide +kernel)) ggX5_readNumber_X5_nextToken
set_option maxRecDepth 20000 in
theorem ggX5_readNumber_X5_markFault : GoodIn wsX5_readNumber wsX5_markFault := goodIn_r _ [26, 27, 11, 28, 29, 30, 31, 32, 33, 34, 35, 36] (by decide +kernel) (by decide +kernel)
set_option maxRecDepth 20000 in
theorem gX5_readNumber_X5_markFault : GoodIn wsX5_readNumber (wsV RX5 55 RX5 yX5_markFault wsX5_markFault) := goodIn_app (goodIn_of _ (by decide +kernel)) ggX5_readNumber_X5_markFault
theorem dX5_readNumber_0 : decode cX5_readNumber 0 = .ok (.aload_n 0, 1) := by decide +kernel
theorem dX5_readNumber_1 : decode cX5_readNumber 1 = .ok (.invokevirtual 61, 3) := by decide +kernel
theorem dX5_readNumber_4 : decode cX5_readNumber 4 = .ok (.aload_n 0, 1) := by decide +kernel
theorem dX5_readNumber_5 : decode cX5_readNumber 5 = .ok (.getfield 18, 3) := by decide +kernel
theorem dX5_readNumber_8 : decode cX5_readNumber 8 = .ok (.bipush (-2), 2) := by decide +kernel
theorem dX5_readNumber_10 : decode cX5_readNumber 10 = .ok (.if_icmp .ne 19, 3) := by decide +kernel
theorem dX5_readNumber_13 : decode cX5_readNumber 13 = .ok (.aload_n 0, 1) := by decide +kernel
theorem dX5_readNumber_14 : decode cX5_readNumber 14 = .ok (.getfield 24, 3) := by decide +kernel
theorem dX5_readNumber_17 : decode cX5_readNumber 17 = .ok (.iload_n 1, 1) := by decide +kernel
theorem dX5_readNumber_18 : decode cX5_readNumber 18 = .ok (.if_icmp .lt 11, 3) := by decide +kernel
theorem dX5_readNumber_21 : decode cX5_readNumber 21 = .ok (.aload_n 0, 1) := by decide +kernel
theorem dX5_readNumber_22 : decode cX5_readNumber 22 = .ok (.getfield 24, 3) := by decide +kernel
theorem dX5_readNumber_25 : decode cX5_readNumber 25 = .ok (.iload_n 2, 1) := by decide +kernel
theorem dX5_readNumber_26 : decode cX5_readNumber 26 = .ok (.if_icmp .le 9, 3) := by decide +kernel
theorem dX5_readNumber_29 : decode cX5_readNumber 29 = .ok (.aload_n 0, 1) := by decide +kernel
theorem dX5_readNumber_30 : decode cX5_readNumber 30 = .ok (.invokevirtual 55, 3) := by decide +kernel
theorem dX5_readNumber_33 : decode cX5_readNumber 33 = .ok (.iload_n 1, 1) := by decide +kernel
theorem dX5_readNumber_34 : decode cX5_readNumber 34 = .ok (.ireturn, 1) := by decide +kernel
theorem dX5_readNumber_35 : decode cX5_readNumber 35 = .ok (.aload_n 0, 1) := by decide +kernel
theorem dX5_readNumber_36 : decode cX5_readNumber 36 = .ok (.getfield 24, 3) := by decide +kernel
theorem dX5_readNumber_39 : decode cX5_readNumber 39 = .ok (.ireturn, 1) := by decide +kernel
theorem dX5_markFault_0 : decode cX5_markFault 0 = .ok (.aload_n 0, 1) := by decide +kernel
theorem dX5_markFault_1 : decode cX5_markFault 1 = .ok (.getfield 27, 3) := by decide +kernel
theorem dX5_markFault_4 : decode cX5_markFault 4 = .ok (.iconst (-1), 1) := by decide +kernel
theorem dX5_markFault_5 : decode cX5_markFault 5 = .ok (.if_icmp .ne 11, 3) := by decide +kernel
theorem dX5_markFault_8 : decode cX5_markFault 8 = .ok (.aload_n 0, 1) := by decide +kernel
theorem dX5_markFault_9 : decode cX5_markFault 9 = .ok (.aload_n 0, 1) := by decide +kernel
theorem dX5_markFault_10 : decode cX5_markFault 10 = .ok (.getfield 21, 3) := by decide +kernel
theorem dX5_markFault_13 : decode cX5_markFault 13 = .ok (.putfield 27, 3) := by decide +kernel
theorem dX5_markFault_16 : decode cX5_markFault 16 = .ok (.return_, 1) := by decide +kernel
set_option maxRecDepth 20000 in
theorem ggX5_nextToken_X5_isDigit : GoodIn wsX5_nextToken wsX5_isDigit := goodIn_r _ [9] (by decide +kernel) (by decide +kernel)
set_option maxRecDepth 20000 in
theorem gX5_nextToken_X5_isDigit : GoodIn wsX5_nextToken (va_wsS RX5 91 yX5_isDigit wsX5_isDigit) := goodIn_app (goodIn_of _ (by decide +kernel)) ggX5_nextToken_X5_isDigit
set_option maxRecDepth 20000 in
theorem ggX5_nextToken_X5_takeDigits : GoodIn wsX5_nextToken wsX5_takeDigits := goodIn_r _ [13, 3, 1, 14, 2, 15, 16, 17, 18, 4, 5, 6, 7, 8, 9, 19, 20, 21, 22, 23, 24, 25, 26, 27] (by decide +kernel) (by decide +kernel)
set_option maxRecDepth 20000 in
theorem gX5_nextToken_X5_takeDigits : GoodIn wsX5_nextToken (wsV RX5 95 RX5 yX5_takeDigits wsX5_takeDigits) := goodIn_app (goodIn_of _ (by decide +kernel)) ggX5_nextToken_X5_takeDigits
theorem dX5_nextToken_0 : decode cX5_nextToken 0 = .ok (.aload_n 0, 1) := by decide +kernel
theorem dX5_nextToken_1 : decode cX5_nextToken 1 = .ok (.getfield 15, 3) := by decide +kernel
theorem dX5_nextToken_4 : decode cX5_nextToken 4 = .ok (.aload_n 0, 1) := by decide +kernel
theorem dX5_nextToken_5 : decode cX5_nextToken 5 = .ok (.getfield 9, 3) := by decide +kernel
theorem dX5_nextToken_8 : decode cX5_nextToken 8 = .ok (.if_icmp .ge 30, 3) := by decide +kernel
theorem dX5_nextToken_11 : decode cX5_nextToken 11 = .ok (.aload_n 0, 1) := by decide +kernel
theorem dX5_nextToken_12 : decode cX5_nextToken 12 = .ok (.getfield 34, 3) := by decide +kernel
theorem dX5_nextToken_15 : decode cX5_nextToken 15 = .ok (.aload_n 0, 1) := by decide +kernel
theorem dX5_nextToken_16 : decode cX5_nextToken 16 = .ok (.getfield 15, 3) := by decide +kernel
theorem dX5_nextToken_19 : decode cX5_nextToken 19 = .ok (.caload, 1) := by decide +kernel
theorem dX5_nextToken_20 : decode cX5_nextToken 20 = .ok (.bipush 32, 2) := by decide +kernel
theorem dX5_nextToken_22 : decode cX5_nextToken 22 = .ok (.if_icmp .ne 16, 3) := by decide +kernel
theorem dX5_nextToken_25 : decode cX5_nextToken 25 = .ok (.aload_n 0, 1) := by decide +kernel
theorem dX5_nextToken_26 : decode cX5_nextToken 26 = .ok (.dup, 1) := by decide +kernel
theorem dX5_nextToken_27 : decode cX5_nextToken 27 = .ok (.getfield 15, 3) := by decide +kernel
theorem dX5_nextToken_30 : decode cX5_nextToken 30 = .ok (.iconst 1, 1) := by decide +kernel
theorem dX5_nextToken_31 : decode cX5_nextToken 31 = .ok (.iadd, 1) := by decide +kernel
theorem dX5_nextToken_32 : decode cX5_nextToken 32 = .ok (.putfield 15, 3) := by decide +kernel
theorem dX5_nextToken_35 : decode cX5_nextToken 35 = .ok (.goto (-35), 3) := by decide +kernel
theorem dX5_nextToken_38 : decode cX5_nextToken 38 = .ok (.aload_n 0, 1) := by decide +kernel
theorem dX5_nextToken_39 : decode cX5_nextToken 39 = .ok (.aload_n 0, 1) := by decide +kernel
theorem dX5_nextToken_40 : decode cX5_nextToken 40 = .ok (.getfield 15, 3) := by decide +kernel
theorem dX5_nextToken_43 : decode cX5_nextToken 43 = .ok (.putfield 21, 3) := by decide +kernel
theorem dX5_nextToken_46 : decode cX5_nextToken 46 = .ok (.aload_n 0, 1) := by decide +kernel
theorem dX5_nextToken_47 : decode cX5_nextToken 47 = .ok (.getfield 15, 3) := by decide +kernel
theorem dX5_nextToken_50 : decode cX5_nextToken 50 = .ok (.aload_n 0, 1) := by decide +kernel
theorem dX5_nextToken_51 : decode cX5_nextToken 51 = .ok (.getfield 9, 3) := by decide +kernel
theorem dX5_nextToken_54 : decode cX5_nextToken 54 = .ok (.if_icmp .lt 11, 3) := by decide +kernel
theorem dX5_nextToken_57 : decode cX5_nextToken 57 = .ok (.aload_n 0, 1) := by decide +kernel
theorem dX5_nextToken_58 : decode cX5_nextToken 58 = .ok (.iconst (-1), 1) := by decide +kernel
theorem dX5_nextToken_59 : decode cX5_nextToken 59 = .ok (.putfield 18, 3) := by decide +kernel
theorem dX5_nextToken_62 : decode cX5_nextToken 62 = .ok (.goto 48, 3) := by decide +kernel
theorem dX5_nextToken_65 : decode cX5_nextToken 65 = .ok (.aload_n 0, 1) := by decide +kernel
theorem dX5_nextToken_66 : decode cX5_nextToken 66 = .ok (.getfield 34, 3) := by decide +kernel
theorem dX5_nextToken_69 : decode cX5_nextToken 69 = .ok (.aload_n 0, 1) := by decide +kernel
theorem dX5_nextToken_70 : decode cX5_nextToken 70 = .ok (.getfield 15, 3) := by decide +kernel
theorem dX5_nextToken_73 : decode cX5_nextToken 73 = .ok (.caload, 1) := by decide +kernel
theorem dX5_nextToken_74 : decode cX5_nextToken 74 = .ok (.invokestatic 91, 3) := by decide +kernel
theorem dX5_nextToken_77 : decode cX5_nextToken 77 = .ok (.ifCond .eq 10, 3) := by decide +kernel
theorem dX5_nextToken_80 : decode cX5_nextToken 80 = .ok (.aload_n 0, 1) := by decide +kernel
theorem dX5_nextToken_81 : decode cX5_nextToken 81 = .ok (.invokevirtual 95, 3) := by decide +kernel
theorem dX5_nextToken_84 : decode cX5_nextToken 84 = .ok (.goto 26, 3) := by decide +kernel
theorem dX5_nextToken_87 : decode cX5_nextToken 87 = .ok (.aload_n 0, 1) := by decide +kernel
theorem dX5_nextToken_88 : decode cX5_nextToken 88 = .ok (.aload_n 0, 1) := by decide +kernel
theorem dX5_nextToken_89 : decode cX5_nextToken 89 = .ok (.getfield 34, 3) := by decide +kernel
theorem dX5_nextToken_92 : decode cX5_nextToken 92 = .ok (.aload_n 0, 1) := by decide +kernel
theorem dX5_nextToken_93 : decode cX5_nextToken 93 = .ok (.getfield 15, 3) := by decide +kernel
theorem dX5_nextToken_96 : decode cX5_nextToken 96 = .ok (.caload, 1) := by decide +kernel
theorem dX5_nextToken_97 : decode cX5_nextToken 97 = .ok (.putfield 18, 3) := by decide +kernel
theorem dX5_nextToken_100 : decode cX5_nextToken 100 = .ok (.aload_n 0, 1) := by decide +kernel
theorem dX5_nextToken_101 : decode cX5_nextToken 101 = .ok (.dup, 1) := by decide +kernel
theorem dX5_nextToken_102 : decode cX5_nextToken 102 = .ok (.getfield 15, 3) := by decide +kernel
theorem dX5_nextToken_105 : decode cX5_nextToken 105 = .ok (.iconst 1, 1) := by decide +kernel
theorem dX5_nextToken_106 : decode cX5_nextToken 106 = .ok (.iadd, 1) := by decide +kernel
theorem dX5_nextToken_107 : decode cX5_nextToken 107 = .ok (.putfield 15, 3) := by decide +kernel
theorem dX5_nextToken_110 : decode cX5_nextToken 110 = .ok (.return_, 1) := by decide +kernel
set_option maxRecDepth 20000 in
theorem ggX5_takeDigits_X5_isDigit : GoodIn wsX5_takeDigits wsX5_isDigit := goodIn_r _ [14] (by decide +kernel) (by decide +kernel)
set_option maxRecDepth 20000 in
theorem gX5_takeDigits_X5_isDigit : GoodIn wsX5_takeDigits (va_wsS RX5 91 yX5_isDigit wsX5_isDigit) := goodIn_app (goodIn_of _ (by decide +kernel)) ggX5_takeDigits_X5_isDigit
theorem dX5_takeDigits_0 : decode cX5_takeDigits 0 = .ok (.aload_n 0, 1) := by decide +kernel
theorem dX5_takeDigits_1 : decode cX5_takeDigits 1 = .ok (.getfield 34, 3) := by decide +kernel
theorem dX5_takeDigits_4 : decode cX5_takeDigits 4 = .ok (.aload_n 0, 1) := by decide +kernel
theorem dX5_takeDigits_5 : decode cX5_takeDigits 5 = .ok (.getfield 15, 3) := by decide +kernel
theorem dX5_takeDigits_8 : decode cX5_takeDigits 8 = .ok (.caload, 1) := by decide +kernel
theorem dX5_takeDigits_9 : decode cX5_takeDigits 9 = .ok (.bipush 48, 2) := by decide +kernel
theorem dX5_takeDigits_11 : decode cX5_takeDigits 11 = .ok (.if_icmp .ne 7, 3) := by decide +kernel
theorem dX5_takeDigits_14 : decode cX5_takeDigits 14 = .ok (.iconst 1, 1) := by decide +kernel
theorem dX5_takeDigits_15 : decode cX5_takeDigits 15 = .ok (.goto 4, 3) := by decide +kernel
theorem dX5_takeDigits_18 : decode cX5_takeDigits 18 = .ok (.iconst 0, 1) := by decide +kernel
theorem dX5_takeDigits_19 : decode cX5_takeDigits 19 = .ok (.istore_n 1, 1) := by decide +kernel
theorem dX5_takeDigits_20 : decode cX5_takeDigits 20 = .ok (.aload_n 0, 1) := by decide +kernel
theorem dX5_takeDigits_21 : decode cX5_takeDigits 21 = .ok (.iconst 0, 1) := by decide +kernel
theorem dX5_takeDigits_22 : decode cX5_takeDigits 22 = .ok (.putfield 24, 3) := by decide +kernel
theorem dX5_takeDigits_25 : decode cX5_takeDigits 25 = .ok (.aload_n 0, 1) := by decide +kernel
theorem dX5_takeDigits_26 : decode cX5_takeDigits 26 = .ok (.getfield 15, 3) := by decide +kernel
theorem dX5_takeDigits_29 : decode cX5_takeDigits 29 = .ok (.aload_n 0, 1) := by decide +kernel
theorem dX5_takeDigits_30 : decode cX5_takeDigits 30 = .ok (.getfield 9, 3) := by decide +kernel
theorem dX5_takeDigits_33 : decode cX5_takeDigits 33 = .ok (.if_icmp .ge 60, 3) := by decide +kernel
theorem dX5_takeDigits_36 : decode cX5_takeDigits 36 = .ok (.aload_n 0, 1) := by decide +kernel
theorem dX5_takeDigits_37 : decode cX5_takeDigits 37 = .ok (.getfield 34, 3) := by decide +kernel
theorem dX5_takeDigits_40 : decode cX5_takeDigits 40 = .ok (.aload_n 0, 1) := by decide +kernel
theorem dX5_takeDigits_41 : decode cX5_takeDigits 41 = .ok (.getfield 15, 3) := by decide +kernel
theorem dX5_takeDigits_44 : decode cX5_takeDigits 44 = .ok (.caload, 1) := by decide +kernel
theorem dX5_takeDigits_45 : decode cX5_takeDigits 45 = .ok (.invokestatic 91, 3) := by decide +kernel
theorem dX5_takeDigits_48 : decode cX5_takeDigits 48 = .ok (.ifCond .eq 45, 3) := by decide +kernel
theorem dX5_takeDigits_51 : decode cX5_takeDigits 51 = .ok (.aload_n 0, 1) := by decide +kernel
theorem dX5_takeDigits_52 : decode cX5_takeDigits 52 = .ok (.aload_n 0, 1) := by decide +kernel
theorem dX5_takeDigits_53 : decode cX5_takeDigits 53 = .ok (.getfield 24, 3) := by decide +kernel
theorem dX5_takeDigits_56 : decode cX5_takeDigits 56 = .ok (.bipush 10, 2) := by decide +kernel
theorem dX5_takeDigits_58 : decode cX5_takeDigits 58 = .ok (.imul, 1) := by decide +kernel
theorem dX5_takeDigits_59 : decode cX5_takeDigits 59 = .ok (.aload_n 0, 1) := by decide +kernel
theorem dX5_takeDigits_60 : decode cX5_takeDigits 60 = .ok (.getfield 34, 3) := by decide +kernel
theorem dX5_takeDigits_63 : decode cX5_takeDigits 63 = .ok (.aload_n 0, 1) := by decide +kernel
theorem dX5_takeDigits_64 : decode cX5_takeDigits 64 = .ok (.getfield 15, 3) := by decide +kernel
theorem dX5_takeDigits_67 : decode cX5_takeDigits 67 = .ok (.caload, 1) := by decide +kernel
theorem dX5_takeDigits_68 : decode cX5_takeDigits 68 = .ok (.bipush 48, 2) := by decide +kernel
theorem dX5_takeDigits_70 : decode cX5_takeDigits 70 = .ok (.isub, 1) := by decide +kernel
theorem dX5_takeDigits_71 : decode cX5_takeDigits 71 = .ok (.iadd, 1) := by decide +kernel
theorem dX5_takeDigits_72 : decode cX5_takeDigits 72 = .ok (.bipush 32, 2) := by decide +kernel
theorem dX5_takeDigits_74 : decode cX5_takeDigits 74 = .ok (.invokestatic 64, 3) := by decide +kernel
theorem dX5_takeDigits_77 : decode cX5_takeDigits 77 = .ok (.putfield 24, 3) := by decide +kernel
theorem dX5_takeDigits_80 : decode cX5_takeDigits 80 = .ok (.aload_n 0, 1) := by decide +kernel
theorem dX5_takeDigits_81 : decode cX5_takeDigits 81 = .ok (.dup, 1) := by decide +kernel
theorem dX5_takeDigits_82 : decode cX5_takeDigits 82 = .ok (.getfield 15, 3) := by decide +kernel
theorem dX5_takeDigits_85 : decode cX5_takeDigits 85 = .ok (.iconst 1, 1) := by decide +kernel
theorem dX5_takeDigits_86 : decode cX5_takeDigits 86 = .ok (.iadd, 1) := by decide +kernel
theorem dX5_takeDigits_87 : decode cX5_takeDigits 87 = .ok (.putfield 15, 3) := by decide +kernel
theorem dX5_takeDigits_90 : decode cX5_takeDigits 90 = .ok (.goto (-65), 3) := by decide +kernel
theorem dX5_takeDigits_93 : decode cX5_takeDigits 93 = .ok (.iload_n 1, 1) := by decide +kernel
theorem dX5_takeDigits_94 : decode cX5_takeDigits 94 = .ok (.ifCond .eq 20, 3) := by decide +kernel
theorem dX5_takeDigits_97 : decode cX5_takeDigits 97 = .ok (.aload_n 0, 1) := by decide +kernel
theorem dX5_takeDigits_98 : decode cX5_takeDigits 98 = .ok (.getfield 15, 3) := by decide +kernel
theorem dX5_takeDigits_101 : decode cX5_takeDigits 101 = .ok (.aload_n 0, 1) := by decide +kernel
theorem dX5_takeDigits_102 : decode cX5_takeDigits 102 = .ok (.getfield 21, 3) := by decide +kernel
theorem dX5_takeDigits_105 : decode cX5_takeDigits 105 = .ok (.isub, 1) := by decide +kernel
theorem dX5_takeDigits_106 : decode cX5_takeDigits 106 = .ok (.iconst 1, 1) := by decide +kernel
theorem dX5_takeDigits_107 : decode cX5_takeDigits 107 = .ok (.if_icmp .le 7, 3) := by decide +kernel
theorem dX5_takeDigits_110 : decode cX5_takeDigits 110 = .ok (.iconst 1, 1) := by decide +kernel
theorem dX5_takeDigits_111 : decode cX5_takeDigits 111 = .ok (.goto 4, 3) := by decide +kernel
theorem dX5_takeDigits_114 : decode cX5_takeDigits 114 = .ok (.iconst 0, 1) := by decide +kernel
theorem dX5_takeDigits_115 : decode cX5_takeDigits 115 = .ok (.istore_n 2, 1) := by decide +kernel
theorem dX5_takeDigits_116 : decode cX5_takeDigits 116 = .ok (.aload_n 0, 1) := by decide +kernel
theorem dX5_takeDigits_117 : decode cX5_takeDigits 117 = .ok (.iload_n 2, 1) := by decide +kernel
theorem dX5_takeDigits_118 : decode cX5_takeDigits 118 = .ok (.ifCond .ne 12, 3) := by decide +kernel
theorem dX5_takeDigits_121 : decode cX5_takeDigits 121 = .ok (.aload_n 0, 1) := by decide +kernel
theorem dX5_takeDigits_122 : decode cX5_takeDigits 122 = .ok (.getfield 24, 3) := by decide +kernel
theorem dX5_takeDigits_125 : decode cX5_takeDigits 125 = .ok (.bipush 31, 2) := by decide +kernel
theorem dX5_takeDigits_127 : decode cX5_takeDigits 127 = .ok (.if_icmp .le 8, 3) := by decide +kernel
theorem dX5_takeDigits_130 : decode cX5_takeDigits 130 = .ok (.bipush (-3), 2) := by decide +kernel
theorem dX5_takeDigits_132 : decode cX5_takeDigits 132 = .ok (.goto 5, 3) := by decide +kernel
theorem dX5_takeDigits_135 : decode cX5_takeDigits 135 = .ok (.bipush (-2), 2) := by decide +kernel
theorem dX5_takeDigits_137 : decode cX5_takeDigits 137 = .ok (.putfield 18, 3) := by decide +kernel
theorem dX5_takeDigits_140 : decode cX5_takeDigits 140 = .ok (.return_, 1) := by decide +kernel
theorem dX5_isDigit_0 : decode cX5_isDigit 0 = .ok (.iload_n 0, 1) := by decide +kernel
theorem dX5_isDigit_1 : decode cX5_isDigit 1 = .ok (.bipush 48, 2) := by decide +kernel
theorem dX5_isDigit_3 : decode cX5_isDigit 3 = .ok (.if_icmp .lt 13, 3) := by decide +kernel
theorem dX5_isDigit_6 : decode cX5_isDigit 6 = .ok (.iload_n 0, 1) := by decide +kernel
theorem dX5_isDigit_7 : decode cX5_isDigit 7 = .ok (.bipush 57, 2) := by decide +kernel
theorem dX5_isDigit_9 : decode cX5_isDigit 9 = .ok (.if_icmp .gt 7, 3) := by decide +kernel
theorem dX5_isDigit_12 : decode cX5_isDigit 12 = .ok (.iconst 1, 1) := by decide +kernel
theorem dX5_isDigit_13 : decode cX5_isDigit 13 = .ok (.goto 4, 3) := by decide +kernel
theorem dX5_isDigit_16 : decode cX5_isDigit 16 = .ok (.iconst 0, 1) := by decide +kernel
theorem dX5_isDigit_17 : decode cX5_isDigit 17 = .ok (.ireturn, 1) := by decide +kernel
theorem dX6_init_0 : decode cX6_init 0 = .ok (.aload_n 0, 1) := by decide +kernel
theorem dX6_init_1 : decode cX6_init 1 = .ok (.invokespecial 3, 3) := by decide +kernel
theorem dX6_init_4 : decode cX6_init 4 = .ok (.aload_n 0, 1) := by decide +kernel
theorem dX6_init_5 : decode cX6_init 5 = .ok (.aload_n 1, 1) := by decide +kernel
theorem dX6_init_6 : decode cX6_init 6 = .ok (.putfield 9, 3) := by decide +kernel
theorem dX6_init_9 : decode cX6_init 9 = .ok (.aload_n 0, 1) := by decide +kernel
theorem dX6_init_10 : decode cX6_init 10 = .ok (.aload_n 2, 1) := by decide +kernel
theorem dX6_init_11 : decode cX6_init 11 = .ok (.putfield 15, 3) := by decide +kernel
theorem dX6_init_14 : decode cX6_init 14 = .ok (.return_, 1) := by decide +kernel
theorem dX6_able_0 : decode cX6_able 0 = .ok (.iconst 0, 1) := by decide +kernel
theorem dX6_able_1 : decode cX6_able 1 = .ok (.istore_n 1, 1) := by decide +kernel
theorem dX6_able_2 : decode cX6_able 2 = .ok (.iconst 0, 1) := by decide +kernel
theorem dX6_able_3 : decode cX6_able 3 = .ok (.istore_n 2, 1) := by decide +kernel
theorem dX6_able_4 : decode cX6_able 4 = .ok (.iload_n 2, 1) := by decide +kernel
theorem dX6_able_5 : decode cX6_able 5 = .ok (.aload_n 0, 1) := by decide +kernel
theorem dX6_able_6 : decode cX6_able 6 = .ok (.getfield 9, 3) := by decide +kernel
theorem dX6_able_9 : decode cX6_able 9 = .ok (.getfield 19, 3) := by decide +kernel
theorem dX6_able_12 : decode cX6_able 12 = .ok (.if_icmp .ge 63, 3) := by decide +kernel
theorem dX6_able_15 : decode cX6_able 15 = .ok (.aload_n 0, 1) := by decide +kernel
theorem dX6_able_16 : decode cX6_able 16 = .ok (.getfield 9, 3) := by decide +kernel
theorem dX6_able_19 : decode cX6_able 19 = .ok (.getfield 25, 3) := by decide +kernel
theorem dX6_able_22 : decode cX6_able 22 = .ok (.iload_n 2, 1) := by decide +kernel
theorem dX6_able_23 : decode cX6_able 23 = .ok (.iaload, 1) := by decide +kernel
theorem dX6_able_24 : decode cX6_able 24 = .ok (.iconst 1, 1) := by decide +kernel
theorem dX6_able_25 : decode cX6_able 25 = .ok (.if_icmp .ne 19, 3) := by decide +kernel
theorem dX6_able_28 : decode cX6_able 28 = .ok (.aload_n 0, 1) := by decide +kernel
theorem dX6_able_29 : decode cX6_able 29 = .ok (.getfield 15, 3) := by decide +kernel
theorem dX6_able_32 : decode cX6_able 32 = .ok (.getfield 29, 3) := by decide +kernel
theorem dX6_able_35 : decode cX6_able 35 = .ok (.iload_n 2, 1) := by decide +kernel
theorem dX6_able_36 : decode cX6_able 36 = .ok (.iaload, 1) := by decide +kernel
theorem dX6_able_37 : decode cX6_able 37 = .ok (.ifCond .ne 7, 3) := by decide +kernel
theorem dX6_able_40 : decode cX6_able 40 = .ok (.iconst 1, 1) := by decide +kernel
theorem dX6_able_41 : decode cX6_able 41 = .ok (.goto 4, 3) := by decide +kernel
theorem dX6_able_44 : decode cX6_able 44 = .ok (.iconst 0, 1) := by decide +kernel
theorem dX6_able_45 : decode cX6_able 45 = .ok (.istore_n 3, 1) := by decide +kernel
theorem dX6_able_46 : decode cX6_able 46 = .ok (.aload_n 0, 1) := by decide +kernel
theorem dX6_able_47 : decode cX6_able 47 = .ok (.getfield 9, 3) := by decide +kernel
theorem dX6_able_50 : decode cX6_able 50 = .ok (.getfield 25, 3) := by decide +kernel
theorem dX6_able_53 : decode cX6_able 53 = .ok (.iload_n 2, 1) := by decide +kernel
theorem dX6_able_54 : decode cX6_able 54 = .ok (.iaload, 1) := by decide +kernel
theorem dX6_able_55 : decode cX6_able 55 = .ok (.iconst 3, 1) := by decide +kernel
theorem dX6_able_56 : decode cX6_able 56 = .ok (.if_icmp .eq 13, 3) := by decide +kernel
theorem dX6_able_59 : decode cX6_able 59 = .ok (.iload_n 3, 1) := by decide +kernel
theorem dX6_able_60 : decode cX6_able 60 = .ok (.ifCond .ne 9, 3) := by decide +kernel
theorem dX6_able_63 : decode cX6_able 63 = .ok (.iload_n 1, 1) := by decide +kernel
theorem dX6_able_64 : decode cX6_able 64 = .ok (.iconst 1, 1) := by decide +kernel
theorem dX6_able_65 : decode cX6_able 65 = .ok (.iload_n 2, 1) := by decide +kernel
theorem dX6_able_66 : decode cX6_able 66 = .ok (.ishl, 1) := by decide +kernel
theorem dX6_able_67 : decode cX6_able 67 = .ok (.ior, 1) := by decide +kernel
theorem dX6_able_68 : decode cX6_able 68 = .ok (.istore_n 1, 1) := by decide +kernel
theorem dX6_able_69 : decode cX6_able 69 = .ok (.iinc 2 1, 3) := by decide +kernel
theorem dX6_able_72 : decode cX6_able 72 = .ok (.goto (-68), 3) := by decide +kernel
theorem dX6_able_75 : decode cX6_able 75 = .ok (.iload_n 1, 1) := by decide +kernel
theorem dX6_able_76 : decode cX6_able 76 = .ok (.aload_n 0, 1) := by decide +kernel
theorem dX6_able_77 : decode cX6_able 77 = .ok (.getfield 15, 3) := by decide +kernel
theorem dX6_able_80 : decode cX6_able 80 = .ok (.getfield 34, 3) := by decide +kernel
theorem dX6_able_83 : decode cX6_able 83 = .ok (.iconst (-1), 1) := by decide +kernel
theorem dX6_able_84 : decode cX6_able 84 = .ok (.ixor, 1) := by decide +kernel
theorem dX6_able_85 : decode cX6_able 85 = .ok (.iand, 1) := by decide +kernel
theorem dX6_able_86 : decode cX6_able 86 = .ok (.ireturn, 1) := by decide +kernel
set_option maxRecDepth 20000 in
theorem ggX6_heldBy_X7_bit : GoodIn wsX6_heldBy wsX7_bit := goodIn_r _ [7] (by decide +kernel) (by decide +kernel)
set_option maxRecDepth 20000 in
theorem gX6_heldBy_X7_bit_n40 : GoodIn wsX6_heldBy (wsX7_bit) := ggX6_heldBy_X7_bit
theorem dX6_heldBy_0 : decode cX6_heldBy 0 = .ok (.iconst 0, 1) := by decide +kernel
theorem dX6_heldBy_1 : decode cX6_heldBy 1 = .ok (.istore_n 2, 1) := by decide +kernel
theorem dX6_heldBy_2 : decode cX6_heldBy 2 = .ok (.iconst 0, 1) := by decide +kernel
theorem dX6_heldBy_3 : decode cX6_heldBy 3 = .ok (.istore_n 3, 1) := by decide +kernel
theorem dX6_heldBy_4 : decode cX6_heldBy 4 = .ok (.iload_n 3, 1) := by decide +kernel
theorem dX6_heldBy_5 : decode cX6_heldBy 5 = .ok (.aload_n 0, 1) := by decide +kernel
theorem dX6_heldBy_6 : decode cX6_heldBy 6 = .ok (.getfield 9, 3) := by decide +kernel
theorem dX6_heldBy_9 : decode cX6_heldBy 9 = .ok (.getfield 19, 3) := by decide +kernel
theorem dX6_heldBy_12 : decode cX6_heldBy 12 = .ok (.if_icmp .ge 32, 3) := by decide +kernel
theorem dX6_heldBy_15 : decode cX6_heldBy 15 = .ok (.iload_n 1, 1) := by decide +kernel
theorem dX6_heldBy_16 : decode cX6_heldBy 16 = .ok (.aload_n 0, 1) := by decide +kernel
theorem dX6_heldBy_17 : decode cX6_heldBy 17 = .ok (.getfield 15, 3) := by decide +kernel
theorem dX6_heldBy_20 : decode cX6_heldBy 20 = .ok (.getfield 37, 3) := by decide +kernel
theorem dX6_heldBy_23 : decode cX6_heldBy 23 = .ok (.iload_n 3, 1) := by decide +kernel
theorem dX6_heldBy_24 : decode cX6_heldBy 24 = .ok (.iaload, 1) := by decide +kernel
theorem dX6_heldBy_25 : decode cX6_heldBy 25 = .ok (.invokestatic 40, 3) := by decide +kernel
theorem dX6_heldBy_28 : decode cX6_heldBy 28 = .ok (.iconst 1, 1) := by decide +kernel
theorem dX6_heldBy_29 : decode cX6_heldBy 29 = .ok (.if_icmp .ne 9, 3) := by decide +kernel
theorem dX6_heldBy_32 : decode cX6_heldBy 32 = .ok (.iload_n 2, 1) := by decide +kernel
theorem dX6_heldBy_33 : decode cX6_heldBy 33 = .ok (.iconst 1, 1) := by decide +kernel
theorem dX6_heldBy_34 : decode cX6_heldBy 34 = .ok (.iload_n 3, 1) := by decide +kernel
theorem dX6_heldBy_35 : decode cX6_heldBy 35 = .ok (.ishl, 1) := by decide +kernel
theorem dX6_heldBy_36 : decode cX6_heldBy 36 = .ok (.ior, 1) := by decide +kernel
theorem dX6_heldBy_37 : decode cX6_heldBy 37 = .ok (.istore_n 2, 1) := by decide +kernel
theorem dX6_heldBy_38 : decode cX6_heldBy 38 = .ok (.iinc 3 1, 3) := by decide +kernel
theorem dX6_heldBy_41 : decode cX6_heldBy 41 = .ok (.goto (-37), 3) := by decide +kernel
theorem dX6_heldBy_44 : decode cX6_heldBy 44 = .ok (.iload_n 2, 1) := by decide +kernel
theorem dX6_heldBy_45 : decode cX6_heldBy 45 = .ok (.ireturn, 1) := by decide +kernel
set_option maxRecDepth 20000 in
theorem ggX6_voices_X6_voicesIfSick : GoodIn wsX6_voices wsX6_voicesIfSick := goodIn_r _ [7, 8, 9, 10, 6, 11, 12, 13, 14, 1, 15, 16, 17, 18, 19, 20, 21, 22, 23, 24, 25, 26, 34, 35, 36, 37, 38, 39, 40, 27, 28, 29, 30, 31, 32, 33] (by decide +kernel) (by decide +kernel)
set_option maxRecDepth 20000 in
theorem gX6_voices_X6_voicesIfSick : GoodIn wsX6_voices (wsV RX6 47 RX6 yX6_voicesIfSick wsX6_voicesIfSick) := goodIn_app (goodIn_of _ (by decide +kernel)) ggX6_voices_X6_voicesIfSick
theorem dX6_voices_0 : decode cX6_voices 0 = .ok (.aload_n 0, 1) := by decide +kernel
theorem dX6_voices_1 : decode cX6_voices 1 = .ok (.aload_n 0, 1) := by decide +kernel
theorem dX6_voices_2 : decode cX6_voices 2 = .ok (.getfield 15, 3) := by decide +kernel
theorem dX6_voices_5 : decode cX6_voices 5 = .ok (.getfield 44, 3) := by decide +kernel
theorem dX6_voices_8 : decode cX6_voices 8 = .ok (.invokevirtual 47, 3) := by decide +kernel
theorem dX6_voices_11 : decode cX6_voices 11 = .ok (.ireturn, 1) := by decide +kernel
set_option maxRecDepth 20000 in
theorem ggX6_voicesIfSick_X6_able : GoodIn wsX6_voicesIfSick wsX6_able := goodIn_r _ [5, 6, 7, 8, 9, 10, 11, 20, 21, 22, 23, 24, 25, 26, 27, 28, 29, 30, 31, 32, 33, 34, 35] (by decide +kernel) (by decide +kernel)
set_option maxRecDepth 20000 in
theorem gX6_voicesIfSick_X6_able : GoodIn wsX6_voicesIfSick (wsV RX6 51 RX6 yX6_able wsX6_able) := goodIn_app (goodIn_of _ (by decide +kernel)) ggX6_voicesIfSick_X6_able
set_option maxRecDepth 20000 in
theorem ggX6_voicesIfSick_X6_heldBy : GoodIn wsX6_voicesIfSick wsX6_heldBy := goodIn_r _ [15, 6, 7, 9, 16, 17, 18, 19, 20, 21, 22, 23, 24, 25, 26, 27, 28, 29, 30, 31, 32, 33, 34, 35] (by decide +kernel) (by decide +kernel)
set_option maxRecDepth 20000 in
theorem gX6_voicesIfSick_X6_heldBy : GoodIn wsX6_voicesIfSick (wsV RX6 55 RX6 yX6_heldBy wsX6_heldBy) := goodIn_app (goodIn_of _ (by decide +kernel)) ggX6_voicesIfSick_X6_heldBy
theorem dX6_voicesIfSick_0 : decode cX6_voicesIfSick 0 = .ok (.aload_n 0, 1) := by decide +kernel
theorem dX6_voicesIfSick_1 : decode cX6_voicesIfSick 1 = .ok (.invokevirtual 51, 3) := by decide +kernel
theorem dX6_voicesIfSick_4 : decode cX6_voicesIfSick 4 = .ok (.aload_n 0, 1) := by decide +kernel
theorem dX6_voicesIfSick_5 : decode cX6_voicesIfSick 5 = .ok (.iload_n 1, 1) := by decide +kernel
theorem dX6_voicesIfSick_6 : decode cX6_voicesIfSick 6 = .ok (.invokevirtual 55, 3) := by decide +kernel
theorem dX6_voicesIfSick_9 : decode cX6_voicesIfSick 9 = .ok (.iconst (-1), 1) := by decide +kernel
theorem dX6_voicesIfSick_10 : decode cX6_voicesIfSick 10 = .ok (.ixor, 1) := by decide +kernel
theorem dX6_voicesIfSick_11 : decode cX6_voicesIfSick 11 = .ok (.iand, 1) := by decide +kernel
theorem dX6_voicesIfSick_12 : decode cX6_voicesIfSick 12 = .ok (.ireturn, 1) := by decide +kernel
set_option maxRecDepth 20000 in
theorem ggX6_votesOf_X7_bit : GoodIn wsX6_votesOf wsX7_bit := goodIn_r _ [6] (by decide +kernel) (by decide +kernel)
set_option maxRecDepth 20000 in
theorem gX6_votesOf_X7_bit_n40 : GoodIn wsX6_votesOf (wsX7_bit) := ggX6_votesOf_X7_bit
theorem dX6_votesOf_0 : decode cX6_votesOf 0 = .ok (.iconst 0, 1) := by decide +kernel
theorem dX6_votesOf_1 : decode cX6_votesOf 1 = .ok (.istore_n 2, 1) := by decide +kernel
theorem dX6_votesOf_2 : decode cX6_votesOf 2 = .ok (.iconst 0, 1) := by decide +kernel
theorem dX6_votesOf_3 : decode cX6_votesOf 3 = .ok (.istore_n 3, 1) := by decide +kernel
theorem dX6_votesOf_4 : decode cX6_votesOf 4 = .ok (.iload_n 3, 1) := by decide +kernel
theorem dX6_votesOf_5 : decode cX6_votesOf 5 = .ok (.aload_n 0, 1) := by decide +kernel
theorem dX6_votesOf_6 : decode cX6_votesOf 6 = .ok (.getfield 9, 3) := by decide +kernel
theorem dX6_votesOf_9 : decode cX6_votesOf 9 = .ok (.getfield 19, 3) := by decide +kernel
theorem dX6_votesOf_12 : decode cX6_votesOf 12 = .ok (.if_icmp .ge 30, 3) := by decide +kernel
theorem dX6_votesOf_15 : decode cX6_votesOf 15 = .ok (.iload_n 1, 1) := by decide +kernel
theorem dX6_votesOf_16 : decode cX6_votesOf 16 = .ok (.iload_n 3, 1) := by decide +kernel
theorem dX6_votesOf_17 : decode cX6_votesOf 17 = .ok (.invokestatic 40, 3) := by decide +kernel
theorem dX6_votesOf_20 : decode cX6_votesOf 20 = .ok (.iconst 1, 1) := by decide +kernel
theorem dX6_votesOf_21 : decode cX6_votesOf 21 = .ok (.if_icmp .ne 15, 3) := by decide +kernel
theorem dX6_votesOf_24 : decode cX6_votesOf 24 = .ok (.iload_n 2, 1) := by decide +kernel
theorem dX6_votesOf_25 : decode cX6_votesOf 25 = .ok (.aload_n 0, 1) := by decide +kernel
theorem dX6_votesOf_26 : decode cX6_votesOf 26 = .ok (.getfield 9, 3) := by decide +kernel
theorem dX6_votesOf_29 : decode cX6_votesOf 29 = .ok (.getfield 58, 3) := by decide +kernel
theorem dX6_votesOf_32 : decode cX6_votesOf 32 = .ok (.iload_n 3, 1) := by decide +kernel
theorem dX6_votesOf_33 : decode cX6_votesOf 33 = .ok (.iaload, 1) := by decide +kernel
theorem dX6_votesOf_34 : decode cX6_votesOf 34 = .ok (.iadd, 1) := by decide +kernel
theorem dX6_votesOf_35 : decode cX6_votesOf 35 = .ok (.istore_n 2, 1) := by decide +kernel
theorem dX6_votesOf_36 : decode cX6_votesOf 36 = .ok (.iinc 3 1, 3) := by decide +kernel
theorem dX6_votesOf_39 : decode cX6_votesOf 39 = .ok (.goto (-35), 3) := by decide +kernel
theorem dX6_votesOf_42 : decode cX6_votesOf 42 = .ok (.iload_n 2, 1) := by decide +kernel
theorem dX6_votesOf_43 : decode cX6_votesOf 43 = .ok (.ireturn, 1) := by decide +kernel
set_option maxRecDepth 20000 in
theorem ggX6_yesOf_X7_bit : GoodIn wsX6_yesOf wsX7_bit := goodIn_r _ [8] (by decide +kernel) (by decide +kernel)
set_option maxRecDepth 20000 in
theorem gX6_yesOf_X7_bit_n40 : GoodIn wsX6_yesOf (wsX7_bit) := ggX6_yesOf_X7_bit
theorem dX6_yesOf_0 : decode cX6_yesOf 0 = .ok (.iconst 0, 1) := by decide +kernel
theorem dX6_yesOf_1 : decode cX6_yesOf 1 = .ok (.istore_n 2, 1) := by decide +kernel
theorem dX6_yesOf_2 : decode cX6_yesOf 2 = .ok (.iconst 0, 1) := by decide +kernel
theorem dX6_yesOf_3 : decode cX6_yesOf 3 = .ok (.istore_n 3, 1) := by decide +kernel
theorem dX6_yesOf_4 : decode cX6_yesOf 4 = .ok (.iload_n 3, 1) := by decide +kernel
theorem dX6_yesOf_5 : decode cX6_yesOf 5 = .ok (.aload_n 0, 1) := by decide +kernel
theorem dX6_yesOf_6 : decode cX6_yesOf 6 = .ok (.getfield 9, 3) := by decide +kernel
theorem dX6_yesOf_9 : decode cX6_yesOf 9 = .ok (.getfield 19, 3) := by decide +kernel
theorem dX6_yesOf_12 : decode cX6_yesOf 12 = .ok (.if_icmp .ge 27, 3) := by decide +kernel
theorem dX6_yesOf_15 : decode cX6_yesOf 15 = .ok (.iload_n 2, 1) := by decide +kernel
theorem dX6_yesOf_16 : decode cX6_yesOf 16 = .ok (.aload_n 0, 1) := by decide +kernel
theorem dX6_yesOf_17 : decode cX6_yesOf 17 = .ok (.getfield 9, 3) := by decide +kernel
theorem dX6_yesOf_20 : decode cX6_yesOf 20 = .ok (.getfield 61, 3) := by decide +kernel
theorem dX6_yesOf_23 : decode cX6_yesOf 23 = .ok (.iload_n 3, 1) := by decide +kernel
theorem dX6_yesOf_24 : decode cX6_yesOf 24 = .ok (.iaload, 1) := by decide +kernel
theorem dX6_yesOf_25 : decode cX6_yesOf 25 = .ok (.iload_n 1, 1) := by decide +kernel
theorem dX6_yesOf_26 : decode cX6_yesOf 26 = .ok (.invokestatic 40, 3) := by decide +kernel
theorem dX6_yesOf_29 : decode cX6_yesOf 29 = .ok (.iload_n 3, 1) := by decide +kernel
theorem dX6_yesOf_30 : decode cX6_yesOf 30 = .ok (.ishl, 1) := by decide +kernel
theorem dX6_yesOf_31 : decode cX6_yesOf 31 = .ok (.ior, 1) := by decide +kernel
theorem dX6_yesOf_32 : decode cX6_yesOf 32 = .ok (.istore_n 2, 1) := by decide +kernel
theorem dX6_yesOf_33 : decode cX6_yesOf 33 = .ok (.iinc 3 1, 3) := by decide +kernel
theorem dX6_yesOf_36 : decode cX6_yesOf 36 = .ok (.goto (-32), 3) := by decide +kernel
theorem dX6_yesOf_39 : decode cX6_yesOf 39 = .ok (.iload_n 2, 1) := by decide +kernel
theorem dX6_yesOf_40 : decode cX6_yesOf 40 = .ok (.aload_n 0, 1) := by decide +kernel
theorem dX6_yesOf_41 : decode cX6_yesOf 41 = .ok (.getfield 15, 3) := by decide +kernel
theorem dX6_yesOf_44 : decode cX6_yesOf 44 = .ok (.getfield 64, 3) := by decide +kernel
theorem dX6_yesOf_47 : decode cX6_yesOf 47 = .ok (.ixor, 1) := by decide +kernel
theorem dX6_yesOf_48 : decode cX6_yesOf 48 = .ok (.ireturn, 1) := by decide +kernel
set_option maxRecDepth 20000 in
theorem ggX6_yesIfFor_X7_bit : GoodIn wsX6_yesIfFor wsX7_bit := goodIn_r _ [5] (by decide +kernel) (by decide +kernel)
set_option maxRecDepth 20000 in
theorem gX6_yesIfFor_X7_bit_n40 : GoodIn wsX6_yesIfFor (wsX7_bit) := ggX6_yesIfFor_X7_bit
set_option maxRecDepth 20000 in
theorem ggX6_yesIfFor_X6_yesOf : GoodIn wsX6_yesIfFor wsX6_yesOf := goodIn_r _ [10, 11, 12, 13, 1, 2, 3, 4, 5, 14, 15, 23, 24, 25, 26, 27, 28, 29, 16, 17, 18, 19, 20, 21, 22] (by decide +kernel) (by decide +kernel)
set_option maxRecDepth 20000 in
theorem gX6_yesIfFor_X6_yesOf : GoodIn wsX6_yesIfFor (wsV RX6 67 RX6 yX6_yesOf wsX6_yesOf) := goodIn_app (goodIn_of _ (by decide +kernel)) ggX6_yesIfFor_X6_yesOf
theorem dX6_yesIfFor_0 : decode cX6_yesIfFor 0 = .ok (.iload_n 3, 1) := by decide +kernel
theorem dX6_yesIfFor_1 : decode cX6_yesIfFor 1 = .ok (.iload_n 1, 1) := by decide +kernel
theorem dX6_yesIfFor_2 : decode cX6_yesIfFor 2 = .ok (.invokestatic 40, 3) := by decide +kernel
theorem dX6_yesIfFor_5 : decode cX6_yesIfFor 5 = .ok (.aload_n 0, 1) := by decide +kernel
theorem dX6_yesIfFor_6 : decode cX6_yesIfFor 6 = .ok (.getfield 15, 3) := by decide +kernel
theorem dX6_yesIfFor_9 : decode cX6_yesIfFor 9 = .ok (.getfield 64, 3) := by decide +kernel
theorem dX6_yesIfFor_12 : decode cX6_yesIfFor 12 = .ok (.iload_n 2, 1) := by decide +kernel
theorem dX6_yesIfFor_13 : decode cX6_yesIfFor 13 = .ok (.invokestatic 40, 3) := by decide +kernel
theorem dX6_yesIfFor_16 : decode cX6_yesIfFor 16 = .ok (.ixor, 1) := by decide +kernel
theorem dX6_yesIfFor_17 : decode cX6_yesIfFor 17 = .ok (.istore 4, 2) := by decide +kernel
theorem dX6_yesIfFor_19 : decode cX6_yesIfFor 19 = .ok (.aload_n 0, 1) := by decide +kernel
theorem dX6_yesIfFor_20 : decode cX6_yesIfFor 20 = .ok (.iload_n 1, 1) := by decide +kernel
theorem dX6_yesIfFor_21 : decode cX6_yesIfFor 21 = .ok (.invokevirtual 67, 3) := by decide +kernel
theorem dX6_yesIfFor_24 : decode cX6_yesIfFor 24 = .ok (.iconst 1, 1) := by decide +kernel
theorem dX6_yesIfFor_25 : decode cX6_yesIfFor 25 = .ok (.iload_n 2, 1) := by decide +kernel
theorem dX6_yesIfFor_26 : decode cX6_yesIfFor 26 = .ok (.ishl, 1) := by decide +kernel
theorem dX6_yesIfFor_27 : decode cX6_yesIfFor 27 = .ok (.iconst (-1), 1) := by decide +kernel
theorem dX6_yesIfFor_28 : decode cX6_yesIfFor 28 = .ok (.ixor, 1) := by decide +kernel
theorem dX6_yesIfFor_29 : decode cX6_yesIfFor 29 = .ok (.iand, 1) := by decide +kernel
theorem dX6_yesIfFor_30 : decode cX6_yesIfFor 30 = .ok (.iload 4, 2) := by decide +kernel
theorem dX6_yesIfFor_32 : decode cX6_yesIfFor 32 = .ok (.iload_n 2, 1) := by decide +kernel
theorem dX6_yesIfFor_33 : decode cX6_yesIfFor 33 = .ok (.ishl, 1) := by decide +kernel
theorem dX6_yesIfFor_34 : decode cX6_yesIfFor 34 = .ok (.ior, 1) := by decide +kernel
theorem dX6_yesIfFor_35 : decode cX6_yesIfFor 35 = .ok (.ireturn, 1) := by decide +kernel
set_option maxRecDepth 20000 in
theorem ggX6_passesBy_X6_votesOf : GoodIn wsX6_passesBy wsX6_votesOf := goodIn_r _ [5, 6, 7, 8, 9, 10, 11, 12, 13, 14, 15, 16, 17, 18, 19, 20] (by decide +kernel) (by decide +kernel)
set_option maxRecDepth 20000 in
theorem gX6_passesBy_X6_votesOf : GoodIn wsX6_passesBy (wsV RX6 70 RX6 yX6_votesOf wsX6_votesOf) := goodIn_app (goodIn_of _ (by decide +kernel)) ggX6_passesBy_X6_votesOf
theorem dX6_passesBy_0 : decode cX6_passesBy 0 = .ok (.aload_n 0, 1) := by decide +kernel
theorem dX6_passesBy_1 : decode cX6_passesBy 1 = .ok (.iload_n 1, 1) := by decide +kernel
theorem dX6_passesBy_2 : decode cX6_passesBy 2 = .ok (.iload_n 2, 1) := by decide +kernel
theorem dX6_passesBy_3 : decode cX6_passesBy 3 = .ok (.iand, 1) := by decide +kernel
theorem dX6_passesBy_4 : decode cX6_passesBy 4 = .ok (.invokevirtual 70, 3) := by decide +kernel
theorem dX6_passesBy_7 : decode cX6_passesBy 7 = .ok (.aload_n 0, 1) := by decide +kernel
theorem dX6_passesBy_8 : decode cX6_passesBy 8 = .ok (.iload_n 1, 1) := by decide +kernel
theorem dX6_passesBy_9 : decode cX6_passesBy 9 = .ok (.iload_n 2, 1) := by decide +kernel
theorem dX6_passesBy_10 : decode cX6_passesBy 10 = .ok (.iconst (-1), 1) := by decide +kernel
theorem dX6_passesBy_11 : decode cX6_passesBy 11 = .ok (.ixor, 1) := by decide +kernel
theorem dX6_passesBy_12 : decode cX6_passesBy 12 = .ok (.iand, 1) := by decide +kernel
theorem dX6_passesBy_13 : decode cX6_passesBy 13 = .ok (.invokevirtual 70, 3) := by decide +kernel
theorem dX6_passesBy_16 : decode cX6_passesBy 16 = .ok (.if_icmp .le 7, 3) := by decide +kernel
theorem dX6_passesBy_19 : decode cX6_passesBy 19 = .ok (.iconst 1, 1) := by decide +kernel
theorem dX6_passesBy_20 : decode cX6_passesBy 20 = .ok (.goto 4, 3) := by decide +kernel
theorem dX6_passesBy_23 : decode cX6_passesBy 23 = .ok (.iconst 0, 1) := by decide +kernel
theorem dX6_passesBy_24 : decode cX6_passesBy 24 = .ok (.ireturn, 1) := by decide +kernel
set_option maxRecDepth 20000 in
theorem ggX6_passes_X6_voices : GoodIn wsX6_passes wsX6_voices := goodIn_r _ [5, 6, 7, 8, 9, 10, 4, 11, 12, 13, 14, 15, 16, 17, 18, 19, 20, 21, 22, 23, 24, 25, 26, 27, 28, 44, 45, 46, 47, 48, 49, 50, 51, 52, 53, 54, 55, 56, 57, 58, 59] (by decide +kernel) (by decide +kernel)
set_option maxRecDepth 20000 in
theorem gX6_passes_X6_voices : GoodIn wsX6_passes (wsV RX6 73 RX6 yX6_voices wsX6_voices) := goodIn_app (goodIn_of _ (by decide +kernel)) ggX6_passes_X6_voices
set_option maxRecDepth 20000 in
theorem ggX6_passes_X6_yesOf : GoodIn wsX6_passes wsX6_yesOf := goodIn_r _ [32, 16, 17, 33, 6, 34, 26, 27, 28, 44, 45, 53, 54, 55, 56, 57, 58, 59, 46, 47, 48, 49, 50, 51, 52] (by decide +kernel) (by decide +kernel)
set_option maxRecDepth 20000 in
theorem gX6_passes_X6_yesOf : GoodIn wsX6_passes (wsV RX6 67 RX6 yX6_yesOf wsX6_yesOf) := goodIn_app (goodIn_of _ (by decide +kernel)) ggX6_passes_X6_yesOf
set_option maxRecDepth 20000 in
theorem ggX6_passes_X6_passesBy : GoodIn wsX6_passes wsX6_passesBy := goodIn_r _ [38, 39, 40, 41, 4, 42, 16, 17, 43, 26, 27, 28, 44, 45, 53, 54, 55, 56, 57, 58, 59] (by decide +kernel) (by decide +kernel)
set_option maxRecDepth 20000 in
theorem gX6_passes_X6_passesBy : GoodIn wsX6_passes (wsV RX6 76 RX6 yX6_passesBy wsX6_passesBy) := goodIn_app (goodIn_of _ (by decide +kernel)) ggX6_passes_X6_passesBy
theorem dX6_passes_0 : decode cX6_passes 0 = .ok (.aload_n 0, 1) := by decide +kernel
theorem dX6_passes_1 : decode cX6_passes 1 = .ok (.aload_n 0, 1) := by decide +kernel
theorem dX6_passes_2 : decode cX6_passes 2 = .ok (.invokevirtual 73, 3) := by decide +kernel
theorem dX6_passes_5 : decode cX6_passes 5 = .ok (.aload_n 0, 1) := by decide +kernel
theorem dX6_passes_6 : decode cX6_passes 6 = .ok (.iload_n 1, 1) := by decide +kernel
theorem dX6_passes_7 : decode cX6_passes 7 = .ok (.invokevirtual 67, 3) := by decide +kernel
theorem dX6_passes_10 : decode cX6_passes 10 = .ok (.invokevirtual 76, 3) := by decide +kernel
theorem dX6_passes_13 : decode cX6_passes 13 = .ok (.ireturn, 1) := by decide +kernel
set_option maxRecDepth 20000 in
theorem ggX6_votesHeldBy_X6_voices : GoodIn wsX6_votesHeldBy wsX6_voices := goodIn_r _ [5, 6, 7, 8, 9, 10, 4, 11, 12, 13, 14, 15, 16, 17, 18, 19, 20, 21, 22, 23, 24, 25, 26, 27, 28, 34, 35, 36, 37, 38, 39, 40, 41, 42, 43, 44, 45, 46, 47, 48, 49] (by decide +kernel) (by decide +kernel)
set_option maxRecDepth 20000 in
theorem gX6_votesHeldBy_X6_voices : GoodIn wsX6_votesHeldBy (wsV RX6 73 RX6 yX6_voices wsX6_voices) := goodIn_app (goodIn_of _ (by decide +kernel)) ggX6_votesHeldBy_X6_voices
set_option maxRecDepth 20000 in
theorem ggX6_votesHeldBy_X6_heldBy : GoodIn wsX6_votesHeldBy wsX6_heldBy := goodIn_r _ [24, 16, 17, 6, 25, 26, 27, 28, 34, 35, 43, 44, 45, 46, 47, 48, 49, 36, 37, 38, 39, 40, 41, 42] (by decide +kernel) (by decide +kernel)
set_option maxRecDepth 20000 in
theorem gX6_votesHeldBy_X6_heldBy : GoodIn wsX6_votesHeldBy (wsV RX6 55 RX6 yX6_heldBy wsX6_heldBy) := goodIn_app (goodIn_of _ (by decide +kernel)) ggX6_votesHeldBy_X6_heldBy
set_option maxRecDepth 20000 in
theorem ggX6_votesHeldBy_X6_votesOf : GoodIn wsX6_votesHeldBy wsX6_votesOf := goodIn_r _ [32, 16, 17, 33, 26, 27, 28, 34, 35, 43, 44, 45, 46, 47, 48, 49] (by decide +kernel) (by decide +kernel)
set_option maxRecDepth 20000 in
theorem gX6_votesHeldBy_X6_votesOf : GoodIn wsX6_votesHeldBy (wsV RX6 70 RX6 yX6_votesOf wsX6_votesOf) := goodIn_app (goodIn_of _ (by decide +kernel)) ggX6_votesHeldBy_X6_votesOf
theorem dX6_votesHeldBy_0 : decode cX6_votesHeldBy 0 = .ok (.aload_n 0, 1) := by decide +kernel
theorem dX6_votesHeldBy_1 : decode cX6_votesHeldBy 1 = .ok (.aload_n 0, 1) := by decide +kernel
theorem dX6_votesHeldBy_2 : decode cX6_votesHeldBy 2 = .ok (.invokevirtual 73, 3) := by decide +kernel
theorem dX6_votesHeldBy_5 : decode cX6_votesHeldBy 5 = .ok (.aload_n 0, 1) := by decide +kernel
theorem dX6_votesHeldBy_6 : decode cX6_votesHeldBy 6 = .ok (.iconst 1, 1) := by decide +kernel
theorem dX6_votesHeldBy_7 : decode cX6_votesHeldBy 7 = .ok (.iload_n 1, 1) := by decide +kernel
theorem dX6_votesHeldBy_8 : decode cX6_votesHeldBy 8 = .ok (.ishl, 1) := by decide +kernel
theorem dX6_votesHeldBy_9 : decode cX6_votesHeldBy 9 = .ok (.invokevirtual 55, 3) := by decide +kernel
theorem dX6_votesHeldBy_12 : decode cX6_votesHeldBy 12 = .ok (.iand, 1) := by decide +kernel
theorem dX6_votesHeldBy_13 : decode cX6_votesHeldBy 13 = .ok (.invokevirtual 70, 3) := by decide +kernel
theorem dX6_votesHeldBy_16 : decode cX6_votesHeldBy 16 = .ok (.ireturn, 1) := by decide +kernel
set_option maxRecDepth 20000 in
theorem ggX6_mostHolder_X6_votesHeldBy : GoodIn wsX6_mostHolder wsX6_votesHeldBy := goodIn_r _ [7, 8, 9, 10, 6, 11, 12, 13, 14, 15, 16, 17, 18, 19, 20, 21, 1, 22, 23, 24, 25, 26, 27, 28, 29, 30, 31, 32, 33, 34, 35, 36, 37, 38, 39, 40, 48, 49, 50, 51, 52, 53, 54, 41, 42, 43, 44, 45, 46, 47] (by decide +kernel) (by decide +kernel)
set_option maxRecDepth 20000 in
theorem gX6_mostHolder_X6_votesHeldBy : GoodIn wsX6_mostHolder (wsV RX6 80 RX6 yX6_votesHeldBy wsX6_votesHeldBy) := goodIn_app (goodIn_of _ (by decide +kernel)) ggX6_mostHolder_X6_votesHeldBy
theorem dX6_mostHolder_0 : decode cX6_mostHolder 0 = .ok (.iconst 0, 1) := by decide +kernel
theorem dX6_mostHolder_1 : decode cX6_mostHolder 1 = .ok (.istore_n 1, 1) := by decide +kernel
theorem dX6_mostHolder_2 : decode cX6_mostHolder 2 = .ok (.aload_n 0, 1) := by decide +kernel
theorem dX6_mostHolder_3 : decode cX6_mostHolder 3 = .ok (.iconst 0, 1) := by decide +kernel
theorem dX6_mostHolder_4 : decode cX6_mostHolder 4 = .ok (.invokevirtual 80, 3) := by decide +kernel
theorem dX6_mostHolder_7 : decode cX6_mostHolder 7 = .ok (.istore_n 2, 1) := by decide +kernel
theorem dX6_mostHolder_8 : decode cX6_mostHolder 8 = .ok (.iconst 1, 1) := by decide +kernel
theorem dX6_mostHolder_9 : decode cX6_mostHolder 9 = .ok (.istore_n 3, 1) := by decide +kernel
theorem dX6_mostHolder_10 : decode cX6_mostHolder 10 = .ok (.iload_n 3, 1) := by decide +kernel
theorem dX6_mostHolder_11 : decode cX6_mostHolder 11 = .ok (.aload_n 0, 1) := by decide +kernel
theorem dX6_mostHolder_12 : decode cX6_mostHolder 12 = .ok (.getfield 9, 3) := by decide +kernel
theorem dX6_mostHolder_15 : decode cX6_mostHolder 15 = .ok (.getfield 83, 3) := by decide +kernel
theorem dX6_mostHolder_18 : decode cX6_mostHolder 18 = .ok (.if_icmp .ge 27, 3) := by decide +kernel
theorem dX6_mostHolder_21 : decode cX6_mostHolder 21 = .ok (.aload_n 0, 1) := by decide +kernel
theorem dX6_mostHolder_22 : decode cX6_mostHolder 22 = .ok (.iload_n 3, 1) := by decide +kernel
theorem dX6_mostHolder_23 : decode cX6_mostHolder 23 = .ok (.invokevirtual 80, 3) := by decide +kernel
theorem dX6_mostHolder_26 : decode cX6_mostHolder 26 = .ok (.istore 4, 2) := by decide +kernel
theorem dX6_mostHolder_28 : decode cX6_mostHolder 28 = .ok (.iload 4, 2) := by decide +kernel
theorem dX6_mostHolder_30 : decode cX6_mostHolder 30 = .ok (.iload_n 2, 1) := by decide +kernel
theorem dX6_mostHolder_31 : decode cX6_mostHolder 31 = .ok (.if_icmp .le 8, 3) := by decide +kernel
theorem dX6_mostHolder_34 : decode cX6_mostHolder 34 = .ok (.iload_n 3, 1) := by decide +kernel
theorem dX6_mostHolder_35 : decode cX6_mostHolder 35 = .ok (.istore_n 1, 1) := by decide +kernel
theorem dX6_mostHolder_36 : decode cX6_mostHolder 36 = .ok (.iload 4, 2) := by decide +kernel
theorem dX6_mostHolder_38 : decode cX6_mostHolder 38 = .ok (.istore_n 2, 1) := by decide +kernel
theorem dX6_mostHolder_39 : decode cX6_mostHolder 39 = .ok (.iinc 3 1, 3) := by decide +kernel
theorem dX6_mostHolder_42 : decode cX6_mostHolder 42 = .ok (.goto (-32), 3) := by decide +kernel
theorem dX6_mostHolder_45 : decode cX6_mostHolder 45 = .ok (.iload_n 1, 1) := by decide +kernel
theorem dX6_mostHolder_46 : decode cX6_mostHolder 46 = .ok (.ireturn, 1) := by decide +kernel
set_option maxRecDepth 20000 in
theorem ggX6_swayers_X6_voices : GoodIn wsX6_swayers wsX6_voices := goodIn_r _ [7, 8, 9, 10, 11, 12, 6, 13, 14, 15, 16, 17, 1, 2, 18, 19, 20, 21, 22, 23, 24, 25, 26, 27, 28, 44, 45, 53, 54, 55, 56, 57, 58, 59, 46, 47, 48, 49, 50, 51, 52] (by decide +kernel) (by decide +kernel)
set_option maxRecDepth 20000 in
theorem gX6_swayers_X6_voices : GoodIn wsX6_swayers (wsV RX6 73 RX6 yX6_voices wsX6_voices) := goodIn_app (goodIn_of _ (by decide +kernel)) ggX6_swayers_X6_voices
set_option maxRecDepth 20000 in
theorem ggX6_swayers_X6_yesOf : GoodIn wsX6_swayers wsX6_yesOf := goodIn_r _ [32, 1, 2, 33, 8, 34, 26, 27, 28, 44, 45, 46, 47, 48, 49, 50, 51, 52, 53, 54, 55, 56, 57, 58, 59] (by decide +kernel) (by decide +kernel)
set_option maxRecDepth 20000 in
theorem gX6_swayers_X6_yesOf : GoodIn wsX6_swayers (wsV RX6 67 RX6 yX6_yesOf wsX6_yesOf) := goodIn_app (goodIn_of _ (by decide +kernel)) ggX6_swayers_X6_yesOf
set_option maxRecDepth 20000 in
theorem ggX6_swayers_X6_passesBy : GoodIn wsX6_swayers wsX6_passesBy := goodIn_r _ [38, 39, 40, 41, 6, 42, 1, 2, 43, 26, 27, 28, 44, 45, 46, 47, 48, 49, 50, 51, 52] (by decide +kernel) (by decide +kernel)
set_option maxRecDepth 20000 in
theorem gX6_swayers_X6_passesBy : GoodIn wsX6_swayers (wsV RX6 76 RX6 yX6_passesBy wsX6_passesBy) := goodIn_app (goodIn_of _ (by decide +kernel)) ggX6_swayers_X6_passesBy
theorem dX6_swayers_0 : decode cX6_swayers 0 = .ok (.aload_n 0, 1) := by decide +kernel
theorem dX6_swayers_1 : decode cX6_swayers 1 = .ok (.invokevirtual 73, 3) := by decide +kernel
theorem dX6_swayers_4 : decode cX6_swayers 4 = .ok (.istore_n 2, 1) := by decide +kernel
theorem dX6_swayers_5 : decode cX6_swayers 5 = .ok (.aload_n 0, 1) := by decide +kernel
theorem dX6_swayers_6 : decode cX6_swayers 6 = .ok (.iload_n 1, 1) := by decide +kernel
theorem dX6_swayers_7 : decode cX6_swayers 7 = .ok (.invokevirtual 67, 3) := by decide +kernel
theorem dX6_swayers_10 : decode cX6_swayers 10 = .ok (.istore_n 3, 1) := by decide +kernel
theorem dX6_swayers_11 : decode cX6_swayers 11 = .ok (.aload_n 0, 1) := by decide +kernel
theorem dX6_swayers_12 : decode cX6_swayers 12 = .ok (.iload_n 2, 1) := by decide +kernel
theorem dX6_swayers_13 : decode cX6_swayers 13 = .ok (.iload_n 3, 1) := by decide +kernel
theorem dX6_swayers_14 : decode cX6_swayers 14 = .ok (.invokevirtual 76, 3) := by decide +kernel
theorem dX6_swayers_17 : decode cX6_swayers 17 = .ok (.istore 4, 2) := by decide +kernel
theorem dX6_swayers_19 : decode cX6_swayers 19 = .ok (.iconst 0, 1) := by decide +kernel
theorem dX6_swayers_20 : decode cX6_swayers 20 = .ok (.istore 5, 2) := by decide +kernel
theorem dX6_swayers_22 : decode cX6_swayers 22 = .ok (.iconst 0, 1) := by decide +kernel
theorem dX6_swayers_23 : decode cX6_swayers 23 = .ok (.istore 6, 2) := by decide +kernel
theorem dX6_swayers_25 : decode cX6_swayers 25 = .ok (.iload 6, 2) := by decide +kernel
theorem dX6_swayers_27 : decode cX6_swayers 27 = .ok (.aload_n 0, 1) := by decide +kernel
theorem dX6_swayers_28 : decode cX6_swayers 28 = .ok (.getfield 9, 3) := by decide +kernel
theorem dX6_swayers_31 : decode cX6_swayers 31 = .ok (.getfield 19, 3) := by decide +kernel
theorem dX6_swayers_34 : decode cX6_swayers 34 = .ok (.if_icmp .ge 45, 3) := by decide +kernel
theorem dX6_swayers_37 : decode cX6_swayers 37 = .ok (.iconst 1, 1) := by decide +kernel
theorem dX6_swayers_38 : decode cX6_swayers 38 = .ok (.iload 6, 2) := by decide +kernel
theorem dX6_swayers_40 : decode cX6_swayers 40 = .ok (.ishl, 1) := by decide +kernel
theorem dX6_swayers_41 : decode cX6_swayers 41 = .ok (.istore 7, 2) := by decide +kernel
theorem dX6_swayers_43 : decode cX6_swayers 43 = .ok (.iload_n 2, 1) := by decide +kernel
theorem dX6_swayers_44 : decode cX6_swayers 44 = .ok (.iload 7, 2) := by decide +kernel
theorem dX6_swayers_46 : decode cX6_swayers 46 = .ok (.iand, 1) := by decide +kernel
theorem dX6_swayers_47 : decode cX6_swayers 47 = .ok (.ifCond .eq 26, 3) := by decide +kernel
theorem dX6_swayers_50 : decode cX6_swayers 50 = .ok (.aload_n 0, 1) := by decide +kernel
theorem dX6_swayers_51 : decode cX6_swayers 51 = .ok (.iload_n 2, 1) := by decide +kernel
theorem dX6_swayers_52 : decode cX6_swayers 52 = .ok (.iload 7, 2) := by decide +kernel
theorem dX6_swayers_54 : decode cX6_swayers 54 = .ok (.iconst (-1), 1) := by decide +kernel
theorem dX6_swayers_55 : decode cX6_swayers 55 = .ok (.ixor, 1) := by decide +kernel
theorem dX6_swayers_56 : decode cX6_swayers 56 = .ok (.iand, 1) := by decide +kernel
theorem dX6_swayers_57 : decode cX6_swayers 57 = .ok (.iload_n 3, 1) := by decide +kernel
theorem dX6_swayers_58 : decode cX6_swayers 58 = .ok (.invokevirtual 76, 3) := by decide +kernel
theorem dX6_swayers_61 : decode cX6_swayers 61 = .ok (.iload 4, 2) := by decide +kernel
theorem dX6_swayers_63 : decode cX6_swayers 63 = .ok (.if_icmp .eq 10, 3) := by decide +kernel
theorem dX6_swayers_66 : decode cX6_swayers 66 = .ok (.iload 5, 2) := by decide +kernel
theorem dX6_swayers_68 : decode cX6_swayers 68 = .ok (.iload 7, 2) := by decide +kernel
theorem dX6_swayers_70 : decode cX6_swayers 70 = .ok (.ior, 1) := by decide +kernel
theorem dX6_swayers_71 : decode cX6_swayers 71 = .ok (.istore 5, 2) := by decide +kernel
theorem dX6_swayers_73 : decode cX6_swayers 73 = .ok (.iinc 6 1, 3) := by decide +kernel
theorem dX6_swayers_76 : decode cX6_swayers 76 = .ok (.goto (-51), 3) := by decide +kernel
theorem dX6_swayers_79 : decode cX6_swayers 79 = .ok (.iload 5, 2) := by decide +kernel
theorem dX6_swayers_81 : decode cX6_swayers 81 = .ok (.ireturn, 1) := by decide +kernel
set_option maxRecDepth 20000 in
theorem ggX6_fewestTurned_X6_voices : GoodIn wsX6_fewestTurned wsX6_voices := goodIn_r _ [5, 6, 7, 8, 9, 10, 4, 11, 12, 13, 14, 15, 16, 17, 18, 19, 20, 21, 22, 23, 24, 25, 26, 27, 28, 56, 57, 58, 59, 60, 61, 62, 63, 64, 65, 66, 67, 68, 69, 70, 71] (by decide +kernel) (by decide +kernel)
set_option maxRecDepth 20000 in
theorem gX6_fewestTurned_X6_voices : GoodIn wsX6_fewestTurned (wsV RX6 73 RX6 yX6_voices wsX6_voices) := goodIn_app (goodIn_of _ (by decide +kernel)) ggX6_fewestTurned_X6_voices
set_option maxRecDepth 20000 in
theorem ggX6_fewestTurned_X6_yesOf : GoodIn wsX6_fewestTurned wsX6_yesOf := goodIn_r _ [32, 16, 17, 33, 6, 34, 26, 27, 28, 56, 57, 65, 66, 67, 68, 69, 70, 71, 58, 59, 60, 61, 62, 63, 64] (by decide +kernel) (by decide +kernel)
set_option maxRecDepth 20000 in
theorem gX6_fewestTurned_X6_yesOf : GoodIn wsX6_fewestTurned (wsV RX6 67 RX6 yX6_yesOf wsX6_yesOf) := goodIn_app (goodIn_of _ (by decide +kernel)) ggX6_fewestTurned_X6_yesOf
set_option maxRecDepth 20000 in
theorem ggX6_fewestTurned_X7_isWithin : GoodIn wsX6_fewestTurned wsX7_isWithin := goodIn_r _ [36] (by decide +kernel) (by decide +kernel)
set_option maxRecDepth 20000 in
theorem gX6_fewestTurned_X7_isWithin_n86 : GoodIn wsX6_fewestTurned (wsX7_isWithin) := ggX6_fewestTurned_X7_isWithin
set_option maxRecDepth 20000 in
theorem ggX6_fewestTurned_X6_isFewer : GoodIn wsX6_fewestTurned wsX6_isFewer := goodIn_r _ [39, 40, 41, 42, 43, 44, 45, 46] (by decide +kernel) (by decide +kernel)
set_option maxRecDepth 20000 in
theorem gX6_fewestTurned_X6_isFewer : GoodIn wsX6_fewestTurned (va_wsS RX6 89 yX6_isFewer wsX6_isFewer) := goodIn_app (goodIn_of _ (by decide +kernel)) ggX6_fewestTurned_X6_isFewer
set_option maxRecDepth 20000 in
theorem ggX6_fewestTurned_X6_passesBy : GoodIn wsX6_fewestTurned wsX6_passesBy := goodIn_r _ [50, 51, 52, 53, 4, 54, 16, 17, 55, 26, 27, 28, 56, 57, 65, 66, 67, 68, 69, 70, 71] (by decide +kernel) (by decide +kernel)
set_option maxRecDepth 20000 in
theorem gX6_fewestTurned_X6_passesBy : GoodIn wsX6_fewestTurned (wsV RX6 76 RX6 yX6_passesBy wsX6_passesBy) := goodIn_app (goodIn_of _ (by decide +kernel)) ggX6_fewestTurned_X6_passesBy
theorem dX6_fewestTurned_0 : decode cX6_fewestTurned 0 = .ok (.aload_n 0, 1) := by decide +kernel
theorem dX6_fewestTurned_1 : decode cX6_fewestTurned 1 = .ok (.invokevirtual 73, 3) := by decide +kernel
theorem dX6_fewestTurned_4 : decode cX6_fewestTurned 4 = .ok (.istore_n 2, 1) := by decide +kernel
theorem dX6_fewestTurned_5 : decode cX6_fewestTurned 5 = .ok (.aload_n 0, 1) := by decide +kernel
theorem dX6_fewestTurned_6 : decode cX6_fewestTurned 6 = .ok (.iload_n 1, 1) := by decide +kernel
theorem dX6_fewestTurned_7 : decode cX6_fewestTurned 7 = .ok (.invokevirtual 67, 3) := by decide +kernel
theorem dX6_fewestTurned_10 : decode cX6_fewestTurned 10 = .ok (.istore_n 3, 1) := by decide +kernel
theorem dX6_fewestTurned_11 : decode cX6_fewestTurned 11 = .ok (.bipush (-9), 2) := by decide +kernel
theorem dX6_fewestTurned_13 : decode cX6_fewestTurned 13 = .ok (.istore 4, 2) := by decide +kernel
theorem dX6_fewestTurned_15 : decode cX6_fewestTurned 15 = .ok (.iconst 0, 1) := by decide +kernel
theorem dX6_fewestTurned_16 : decode cX6_fewestTurned 16 = .ok (.istore 5, 2) := by decide +kernel
theorem dX6_fewestTurned_18 : decode cX6_fewestTurned 18 = .ok (.iload 5, 2) := by decide +kernel
theorem dX6_fewestTurned_20 : decode cX6_fewestTurned 20 = .ok (.sipush 128, 3) := by decide +kernel
theorem dX6_fewestTurned_23 : decode cX6_fewestTurned 23 = .ok (.if_icmp .ge 44, 3) := by decide +kernel
theorem dX6_fewestTurned_26 : decode cX6_fewestTurned 26 = .ok (.iload 5, 2) := by decide +kernel
theorem dX6_fewestTurned_28 : decode cX6_fewestTurned 28 = .ok (.iload_n 2, 1) := by decide +kernel
theorem dX6_fewestTurned_29 : decode cX6_fewestTurned 29 = .ok (.invokestatic 86, 3) := by decide +kernel
theorem dX6_fewestTurned_32 : decode cX6_fewestTurned 32 = .ok (.ifCond .eq 29, 3) := by decide +kernel
theorem dX6_fewestTurned_35 : decode cX6_fewestTurned 35 = .ok (.iload 5, 2) := by decide +kernel
theorem dX6_fewestTurned_37 : decode cX6_fewestTurned 37 = .ok (.iload 4, 2) := by decide +kernel
theorem dX6_fewestTurned_39 : decode cX6_fewestTurned 39 = .ok (.invokestatic 89, 3) := by decide +kernel
theorem dX6_fewestTurned_42 : decode cX6_fewestTurned 42 = .ok (.ifCond .eq 19, 3) := by decide +kernel
theorem dX6_fewestTurned_45 : decode cX6_fewestTurned 45 = .ok (.aload_n 0, 1) := by decide +kernel
theorem dX6_fewestTurned_46 : decode cX6_fewestTurned 46 = .ok (.iload_n 2, 1) := by decide +kernel
theorem dX6_fewestTurned_47 : decode cX6_fewestTurned 47 = .ok (.iload_n 3, 1) := by decide +kernel
theorem dX6_fewestTurned_48 : decode cX6_fewestTurned 48 = .ok (.iload 5, 2) := by decide +kernel
theorem dX6_fewestTurned_50 : decode cX6_fewestTurned 50 = .ok (.ixor, 1) := by decide +kernel
theorem dX6_fewestTurned_51 : decode cX6_fewestTurned 51 = .ok (.invokevirtual 76, 3) := by decide +kernel
theorem dX6_fewestTurned_54 : decode cX6_fewestTurned 54 = .ok (.ifCond .eq 7, 3) := by decide +kernel
theorem dX6_fewestTurned_57 : decode cX6_fewestTurned 57 = .ok (.iload 5, 2) := by decide +kernel
theorem dX6_fewestTurned_59 : decode cX6_fewestTurned 59 = .ok (.istore 4, 2) := by decide +kernel
theorem dX6_fewestTurned_61 : decode cX6_fewestTurned 61 = .ok (.iinc 5 1, 3) := by decide +kernel
theorem dX6_fewestTurned_64 : decode cX6_fewestTurned 64 = .ok (.goto (-46), 3) := by decide +kernel
theorem dX6_fewestTurned_67 : decode cX6_fewestTurned 67 = .ok (.iload 4, 2) := by decide +kernel
theorem dX6_fewestTurned_69 : decode cX6_fewestTurned 69 = .ok (.ireturn, 1) := by decide +kernel
set_option maxRecDepth 20000 in
theorem ggX6_fewestHanded_X6_able : GoodIn wsX6_fewestHanded wsX6_able := goodIn_r _ [7, 8, 9, 10, 1, 11, 12, 61, 62, 70, 71, 72, 73, 74, 75, 76, 63, 64, 65, 66, 67, 68, 69] (by decide +kernel) (by decide +kernel)
set_option maxRecDepth 20000 in
theorem gX6_fewestHanded_X6_able : GoodIn wsX6_fewestHanded (wsV RX6 51 RX6 yX6_able wsX6_able) := goodIn_app (goodIn_of _ (by decide +kernel)) ggX6_fewestHanded_X6_able
set_option maxRecDepth 20000 in
theorem ggX6_fewestHanded_X6_voices : GoodIn wsX6_fewestHanded wsX6_voices := goodIn_r _ [16, 1, 2, 17, 18, 19, 6, 20, 3, 4, 5, 7, 8, 9, 10, 11, 12, 21, 22, 23, 24, 25, 26, 27, 28, 61, 62, 63, 64, 65, 66, 67, 68, 69, 70, 71, 72, 73, 74, 75, 76] (by decide +kernel) (by decide +kernel)
set_option maxRecDepth 20000 in
theorem gX6_fewestHanded_X6_voices : GoodIn wsX6_fewestHanded (wsV RX6 73 RX6 yX6_voices wsX6_voices) := goodIn_app (goodIn_of _ (by decide +kernel)) ggX6_fewestHanded_X6_voices
set_option maxRecDepth 20000 in
theorem ggX6_fewestHanded_X6_yesOf : GoodIn wsX6_fewestHanded wsX6_yesOf := goodIn_r _ [32, 8, 9, 33, 1, 34, 26, 27, 28, 61, 62, 70, 71, 72, 73, 74, 75, 76, 63, 64, 65, 66, 67, 68, 69] (by decide +kernel) (by decide +kernel)
set_option maxRecDepth 20000 in
theorem gX6_fewestHanded_X6_yesOf : GoodIn wsX6_fewestHanded (wsV RX6 67 RX6 yX6_yesOf wsX6_yesOf) := goodIn_app (goodIn_of _ (by decide +kernel)) ggX6_fewestHanded_X6_yesOf
set_option maxRecDepth 20000 in
theorem ggX6_fewestHanded_X6_isAnyoneWell : GoodIn wsX6_fewestHanded wsX6_isAnyoneWell := goodIn_r _ [38, 1, 2, 8, 39, 40, 41, 42, 43, 44, 45, 46, 61, 62, 63, 64, 65, 66, 67, 68, 69, 70, 71, 72, 73, 74, 75, 76] (by decide +kernel) (by decide +kernel)
set_option maxRecDepth 20000 in
theorem gX6_fewestHanded_X6_isAnyoneWell : GoodIn wsX6_fewestHanded (wsV RX6 92 RX6 yX6_isAnyoneWell wsX6_isAnyoneWell) := goodIn_app (goodIn_of _ (by decide +kernel)) ggX6_fewestHanded_X6_isAnyoneWell
set_option maxRecDepth 20000 in
theorem ggX6_fewestHanded_X6_heldBy : GoodIn wsX6_fewestHanded wsX6_heldBy := goodIn_r _ [24, 8, 9, 1, 25, 26, 27, 28, 61, 62, 70, 71, 72, 73, 74, 75, 76, 63, 64, 65, 66, 67, 68, 69] (by decide +kernel) (by decide +kernel)
set_option maxRecDepth 20000 in
theorem gX6_fewestHanded_X6_heldBy : GoodIn wsX6_fewestHanded (wsV RX6 55 RX6 yX6_heldBy wsX6_heldBy) := goodIn_app (goodIn_of _ (by decide +kernel)) ggX6_fewestHanded_X6_heldBy
set_option maxRecDepth 20000 in
theorem ggX6_fewestHanded_X7_isWithin : GoodIn wsX6_fewestHanded wsX7_isWithin := goodIn_r _ [48] (by decide +kernel) (by decide +kernel)
set_option maxRecDepth 20000 in
theorem gX6_fewestHanded_X7_isWithin_n86 : GoodIn wsX6_fewestHanded (wsX7_isWithin) := ggX6_fewestHanded_X7_isWithin
set_option maxRecDepth 20000 in
theorem ggX6_fewestHanded_X6_isFewer : GoodIn wsX6_fewestHanded wsX6_isFewer := goodIn_r _ [51, 40, 41, 42, 43, 44, 45, 46] (by decide +kernel) (by decide +kernel)
set_option maxRecDepth 20000 in
theorem gX6_fewestHanded_X6_isFewer : GoodIn wsX6_fewestHanded (va_wsS RX6 89 yX6_isFewer wsX6_isFewer) := goodIn_app (goodIn_of _ (by decide +kernel)) ggX6_fewestHanded_X6_isFewer
set_option maxRecDepth 20000 in
theorem ggX6_fewestHanded_X6_passesBy : GoodIn wsX6_fewestHanded wsX6_passesBy := goodIn_r _ [55, 56, 57, 58, 6, 59, 8, 9, 60, 26, 27, 28, 61, 62, 70, 71, 72, 73, 74, 75, 76] (by decide +kernel) (by decide +kernel)
set_option maxRecDepth 20000 in
theorem gX6_fewestHanded_X6_passesBy : GoodIn wsX6_fewestHanded (wsV RX6 76 RX6 yX6_passesBy wsX6_passesBy) := goodIn_app (goodIn_of _ (by decide +kernel)) ggX6_fewestHanded_X6_passesBy
theorem dX6_fewestHanded_0 : decode cX6_fewestHanded 0 = .ok (.aload_n 0, 1) := by decide +kernel
theorem dX6_fewestHanded_1 : decode cX6_fewestHanded 1 = .ok (.invokevirtual 51, 3) := by decide +kernel
theorem dX6_fewestHanded_4 : decode cX6_fewestHanded 4 = .ok (.istore_n 2, 1) := by decide +kernel
theorem dX6_fewestHanded_5 : decode cX6_fewestHanded 5 = .ok (.aload_n 0, 1) := by decide +kernel
theorem dX6_fewestHanded_6 : decode cX6_fewestHanded 6 = .ok (.invokevirtual 73, 3) := by decide +kernel
theorem dX6_fewestHanded_9 : decode cX6_fewestHanded 9 = .ok (.istore_n 3, 1) := by decide +kernel
theorem dX6_fewestHanded_10 : decode cX6_fewestHanded 10 = .ok (.aload_n 0, 1) := by decide +kernel
theorem dX6_fewestHanded_11 : decode cX6_fewestHanded 11 = .ok (.iload_n 1, 1) := by decide +kernel
theorem dX6_fewestHanded_12 : decode cX6_fewestHanded 12 = .ok (.invokevirtual 67, 3) := by decide +kernel
theorem dX6_fewestHanded_15 : decode cX6_fewestHanded 15 = .ok (.istore 4, 2) := by decide +kernel
theorem dX6_fewestHanded_17 : decode cX6_fewestHanded 17 = .ok (.aload_n 0, 1) := by decide +kernel
theorem dX6_fewestHanded_18 : decode cX6_fewestHanded 18 = .ok (.invokevirtual 92, 3) := by decide +kernel
theorem dX6_fewestHanded_21 : decode cX6_fewestHanded 21 = .ok (.ifCond .eq 17, 3) := by decide +kernel
theorem dX6_fewestHanded_24 : decode cX6_fewestHanded 24 = .ok (.aload_n 0, 1) := by decide +kernel
theorem dX6_fewestHanded_25 : decode cX6_fewestHanded 25 = .ok (.aload_n 0, 1) := by decide +kernel
theorem dX6_fewestHanded_26 : decode cX6_fewestHanded 26 = .ok (.getfield 15, 3) := by decide +kernel
theorem dX6_fewestHanded_29 : decode cX6_fewestHanded 29 = .ok (.getfield 44, 3) := by decide +kernel
theorem dX6_fewestHanded_32 : decode cX6_fewestHanded 32 = .ok (.invokevirtual 55, 3) := by decide +kernel
theorem dX6_fewestHanded_35 : decode cX6_fewestHanded 35 = .ok (.goto 4, 3) := by decide +kernel
theorem dX6_fewestHanded_38 : decode cX6_fewestHanded 38 = .ok (.iconst 0, 1) := by decide +kernel
theorem dX6_fewestHanded_39 : decode cX6_fewestHanded 39 = .ok (.istore 5, 2) := by decide +kernel
theorem dX6_fewestHanded_41 : decode cX6_fewestHanded 41 = .ok (.bipush (-9), 2) := by decide +kernel
theorem dX6_fewestHanded_43 : decode cX6_fewestHanded 43 = .ok (.istore 6, 2) := by decide +kernel
theorem dX6_fewestHanded_45 : decode cX6_fewestHanded 45 = .ok (.iconst 0, 1) := by decide +kernel
theorem dX6_fewestHanded_46 : decode cX6_fewestHanded 46 = .ok (.istore 7, 2) := by decide +kernel
theorem dX6_fewestHanded_48 : decode cX6_fewestHanded 48 = .ok (.iload 7, 2) := by decide +kernel
theorem dX6_fewestHanded_50 : decode cX6_fewestHanded 50 = .ok (.sipush 128, 3) := by decide +kernel
theorem dX6_fewestHanded_53 : decode cX6_fewestHanded 53 = .ok (.if_icmp .ge 48, 3) := by decide +kernel
theorem dX6_fewestHanded_56 : decode cX6_fewestHanded 56 = .ok (.iload 7, 2) := by decide +kernel
theorem dX6_fewestHanded_58 : decode cX6_fewestHanded 58 = .ok (.iload 5, 2) := by decide +kernel
theorem dX6_fewestHanded_60 : decode cX6_fewestHanded 60 = .ok (.invokestatic 86, 3) := by decide +kernel
theorem dX6_fewestHanded_63 : decode cX6_fewestHanded 63 = .ok (.ifCond .eq 32, 3) := by decide +kernel
theorem dX6_fewestHanded_66 : decode cX6_fewestHanded 66 = .ok (.iload 7, 2) := by decide +kernel
theorem dX6_fewestHanded_68 : decode cX6_fewestHanded 68 = .ok (.iload 6, 2) := by decide +kernel
theorem dX6_fewestHanded_70 : decode cX6_fewestHanded 70 = .ok (.invokestatic 89, 3) := by decide +kernel
theorem dX6_fewestHanded_73 : decode cX6_fewestHanded 73 = .ok (.ifCond .eq 22, 3) := by decide +kernel
theorem dX6_fewestHanded_76 : decode cX6_fewestHanded 76 = .ok (.aload_n 0, 1) := by decide +kernel
theorem dX6_fewestHanded_77 : decode cX6_fewestHanded 77 = .ok (.iload_n 3, 1) := by decide +kernel
theorem dX6_fewestHanded_78 : decode cX6_fewestHanded 78 = .ok (.iload 7, 2) := by decide +kernel
theorem dX6_fewestHanded_80 : decode cX6_fewestHanded 80 = .ok (.iload_n 2, 1) := by decide +kernel
theorem dX6_fewestHanded_81 : decode cX6_fewestHanded 81 = .ok (.iand, 1) := by decide +kernel
theorem dX6_fewestHanded_82 : decode cX6_fewestHanded 82 = .ok (.ior, 1) := by decide +kernel
theorem dX6_fewestHanded_83 : decode cX6_fewestHanded 83 = .ok (.iload 4, 2) := by decide +kernel
theorem dX6_fewestHanded_85 : decode cX6_fewestHanded 85 = .ok (.invokevirtual 76, 3) := by decide +kernel
theorem dX6_fewestHanded_88 : decode cX6_fewestHanded 88 = .ok (.ifCond .eq 7, 3) := by decide +kernel
theorem dX6_fewestHanded_91 : decode cX6_fewestHanded 91 = .ok (.iload 7, 2) := by decide +kernel
theorem dX6_fewestHanded_93 : decode cX6_fewestHanded 93 = .ok (.istore 6, 2) := by decide +kernel
theorem dX6_fewestHanded_95 : decode cX6_fewestHanded 95 = .ok (.iinc 7 1, 3) := by decide +kernel
theorem dX6_fewestHanded_98 : decode cX6_fewestHanded 98 = .ok (.goto (-50), 3) := by decide +kernel
theorem dX6_fewestHanded_101 : decode cX6_fewestHanded 101 = .ok (.iload 6, 2) := by decide +kernel
theorem dX6_fewestHanded_103 : decode cX6_fewestHanded 103 = .ok (.ireturn, 1) := by decide +kernel
set_option maxRecDepth 20000 in
theorem ggX6_isAnyoneWell_J6_bitCount_0f7a4 : GoodIn wsX6_isAnyoneWell wsJ6_bitCount_0f7a4 := goodIn_r _ [8, 9, 10, 11] (by decide +kernel) (by decide +kernel)
set_option maxRecDepth 20000 in
theorem gX6_isAnyoneWell_J6_bitCount_0f7a4 : GoodIn wsX6_isAnyoneWell (va_wsS RX6 96 yJ6_bitCount_0f7a4 wsJ6_bitCount_0f7a4) := goodIn_app (goodIn_of _ (by decide +kernel)) ggX6_isAnyoneWell_J6_bitCount_0f7a4
theorem dX6_isAnyoneWell_0 : decode cX6_isAnyoneWell 0 = .ok (.aload_n 0, 1) := by decide +kernel
theorem dX6_isAnyoneWell_1 : decode cX6_isAnyoneWell 1 = .ok (.getfield 15, 3) := by decide +kernel
theorem dX6_isAnyoneWell_4 : decode cX6_isAnyoneWell 4 = .ok (.getfield 44, 3) := by decide +kernel
theorem dX6_isAnyoneWell_7 : decode cX6_isAnyoneWell 7 = .ok (.invokestatic 96, 3) := by decide +kernel
theorem dX6_isAnyoneWell_10 : decode cX6_isAnyoneWell 10 = .ok (.aload_n 0, 1) := by decide +kernel
theorem dX6_isAnyoneWell_11 : decode cX6_isAnyoneWell 11 = .ok (.getfield 9, 3) := by decide +kernel
theorem dX6_isAnyoneWell_14 : decode cX6_isAnyoneWell 14 = .ok (.getfield 83, 3) := by decide +kernel
theorem dX6_isAnyoneWell_17 : decode cX6_isAnyoneWell 17 = .ok (.if_icmp .ge 7, 3) := by decide +kernel
theorem dX6_isAnyoneWell_20 : decode cX6_isAnyoneWell 20 = .ok (.iconst 1, 1) := by decide +kernel
theorem dX6_isAnyoneWell_21 : decode cX6_isAnyoneWell 21 = .ok (.goto 4, 3) := by decide +kernel
theorem dX6_isAnyoneWell_24 : decode cX6_isAnyoneWell 24 = .ok (.iconst 0, 1) := by decide +kernel
theorem dX6_isAnyoneWell_25 : decode cX6_isAnyoneWell 25 = .ok (.ireturn, 1) := by decide +kernel
set_option maxRecDepth 20000 in
theorem ggX6_isFewer_J6_bitCount_0f7a4 : GoodIn wsX6_isFewer wsJ6_bitCount_0f7a4 := goodIn_r _ [4, 5, 6, 7] (by decide +kernel) (by decide +kernel)
set_option maxRecDepth 20000 in
theorem gX6_isFewer_J6_bitCount_0f7a4 : GoodIn wsX6_isFewer (va_wsS RX6 96 yJ6_bitCount_0f7a4 wsJ6_bitCount_0f7a4) := goodIn_app (goodIn_of _ (by decide +kernel)) ggX6_isFewer_J6_bitCount_0f7a4
theorem dX6_isFewer_0 : decode cX6_isFewer 0 = .ok (.iload_n 1, 1) := by decide +kernel
theorem dX6_isFewer_1 : decode cX6_isFewer 1 = .ok (.bipush (-9), 2) := by decide +kernel
theorem dX6_isFewer_3 : decode cX6_isFewer 3 = .ok (.if_icmp .eq 14, 3) := by decide +kernel
theorem dX6_isFewer_6 : decode cX6_isFewer 6 = .ok (.iload_n 0, 1) := by decide +kernel
theorem dX6_isFewer_7 : decode cX6_isFewer 7 = .ok (.invokestatic 96, 3) := by decide +kernel
theorem dX6_isFewer_10 : decode cX6_isFewer 10 = .ok (.iload_n 1, 1) := by decide +kernel
theorem dX6_isFewer_11 : decode cX6_isFewer 11 = .ok (.invokestatic 96, 3) := by decide +kernel
theorem dX6_isFewer_14 : decode cX6_isFewer 14 = .ok (.if_icmp .ge 7, 3) := by decide +kernel
theorem dX6_isFewer_17 : decode cX6_isFewer 17 = .ok (.iconst 1, 1) := by decide +kernel
theorem dX6_isFewer_18 : decode cX6_isFewer 18 = .ok (.goto 4, 3) := by decide +kernel
theorem dX6_isFewer_21 : decode cX6_isFewer 21 = .ok (.iconst 0, 1) := by decide +kernel
theorem dX6_isFewer_22 : decode cX6_isFewer 22 = .ok (.ireturn, 1) := by decide +kernel
set_option maxRecDepth 20000 in
theorem ggX6_changingSwaps_X6_able : GoodIn wsX6_changingSwaps wsX6_able := goodIn_r _ [10, 3, 4, 11, 1, 12, 13, 39, 40, 48, 49, 50, 51, 52, 53, 54, 41, 42, 43, 44, 45, 46, 47] (by decide +kernel) (by decide +kernel)
set_option maxRecDepth 20000 in
theorem gX6_changingSwaps_X6_able : GoodIn wsX6_changingSwaps (wsV RX6 51 RX6 yX6_able wsX6_able) := goodIn_app (goodIn_of _ (by decide +kernel)) ggX6_changingSwaps_X6_able
set_option maxRecDepth 20000 in
theorem ggX6_changingSwaps_X6_heldBy : GoodIn wsX6_changingSwaps wsX6_heldBy := goodIn_r _ [17, 3, 4, 1, 5, 18, 19, 20, 39, 40, 48, 49, 50, 51, 52, 53, 54, 41, 42, 43, 44, 45, 46, 47] (by decide +kernel) (by decide +kernel)
set_option maxRecDepth 20000 in
theorem gX6_changingSwaps_X6_heldBy : GoodIn wsX6_changingSwaps (wsV RX6 55 RX6 yX6_heldBy wsX6_heldBy) := goodIn_app (goodIn_of _ (by decide +kernel)) ggX6_changingSwaps_X6_heldBy
set_option maxRecDepth 20000 in
theorem ggX6_changingSwaps_X6_yesOf : GoodIn wsX6_changingSwaps wsX6_yesOf := goodIn_r _ [24, 3, 4, 25, 1, 26, 18, 19, 20, 39, 40, 48, 49, 50, 51, 52, 53, 54, 41, 42, 43, 44, 45, 46, 47] (by decide +kernel) (by decide +kernel)
set_option maxRecDepth 20000 in
theorem gX6_changingSwaps_X6_yesOf : GoodIn wsX6_changingSwaps (wsV RX6 67 RX6 yX6_yesOf wsX6_yesOf) := goodIn_app (goodIn_of _ (by decide +kernel)) ggX6_changingSwaps_X6_yesOf
set_option maxRecDepth 20000 in
theorem ggX6_changingSwaps_X6_passesBy : GoodIn wsX6_changingSwaps wsX6_passesBy := goodIn_r _ [30, 31, 32, 33, 9, 34, 3, 4, 35, 18, 19, 20, 39, 40, 48, 49, 50, 51, 52, 53, 54] (by decide +kernel) (by decide +kernel)
set_option maxRecDepth 20000 in
theorem gX6_changingSwaps_X6_passesBy : GoodIn wsX6_changingSwaps (wsV RX6 76 RX6 yX6_passesBy wsX6_passesBy) := goodIn_app (goodIn_of _ (by decide +kernel)) ggX6_changingSwaps_X6_passesBy
set_option maxRecDepth 20000 in
theorem ggX6_changingSwaps_X6_exchanged : GoodIn wsX6_changingSwaps wsX6_exchanged := goodIn_r _ [38, 18, 19, 20] (by decide +kernel) (by decide +kernel)
set_option maxRecDepth 20000 in
theorem gX6_changingSwaps_X6_exchanged : GoodIn wsX6_changingSwaps (va_wsS RX6 101 yX6_exchanged wsX6_exchanged) := goodIn_app (goodIn_of _ (by decide +kernel)) ggX6_changingSwaps_X6_exchanged
theorem dX6_changingSwaps_0 : decode cX6_changingSwaps 0 = .ok (.aload_n 0, 1) := by decide +kernel
theorem dX6_changingSwaps_1 : decode cX6_changingSwaps 1 = .ok (.invokevirtual 51, 3) := by decide +kernel
theorem dX6_changingSwaps_4 : decode cX6_changingSwaps 4 = .ok (.istore_n 2, 1) := by decide +kernel
theorem dX6_changingSwaps_5 : decode cX6_changingSwaps 5 = .ok (.aload_n 0, 1) := by decide +kernel
theorem dX6_changingSwaps_6 : decode cX6_changingSwaps 6 = .ok (.aload_n 0, 1) := by decide +kernel
theorem dX6_changingSwaps_7 : decode cX6_changingSwaps 7 = .ok (.getfield 15, 3) := by decide +kernel
theorem dX6_changingSwaps_10 : decode cX6_changingSwaps 10 = .ok (.getfield 44, 3) := by decide +kernel
theorem dX6_changingSwaps_13 : decode cX6_changingSwaps 13 = .ok (.invokevirtual 55, 3) := by decide +kernel
theorem dX6_changingSwaps_16 : decode cX6_changingSwaps 16 = .ok (.iconst (-1), 1) := by decide +kernel
theorem dX6_changingSwaps_17 : decode cX6_changingSwaps 17 = .ok (.ixor, 1) := by decide +kernel
theorem dX6_changingSwaps_18 : decode cX6_changingSwaps 18 = .ok (.istore_n 3, 1) := by decide +kernel
theorem dX6_changingSwaps_19 : decode cX6_changingSwaps 19 = .ok (.aload_n 0, 1) := by decide +kernel
theorem dX6_changingSwaps_20 : decode cX6_changingSwaps 20 = .ok (.iload_n 1, 1) := by decide +kernel
theorem dX6_changingSwaps_21 : decode cX6_changingSwaps 21 = .ok (.invokevirtual 67, 3) := by decide +kernel
theorem dX6_changingSwaps_24 : decode cX6_changingSwaps 24 = .ok (.istore 4, 2) := by decide +kernel
theorem dX6_changingSwaps_26 : decode cX6_changingSwaps 26 = .ok (.aload_n 0, 1) := by decide +kernel
theorem dX6_changingSwaps_27 : decode cX6_changingSwaps 27 = .ok (.iload_n 2, 1) := by decide +kernel
theorem dX6_changingSwaps_28 : decode cX6_changingSwaps 28 = .ok (.iload_n 3, 1) := by decide +kernel
theorem dX6_changingSwaps_29 : decode cX6_changingSwaps 29 = .ok (.iand, 1) := by decide +kernel
theorem dX6_changingSwaps_30 : decode cX6_changingSwaps 30 = .ok (.iload 4, 2) := by decide +kernel
theorem dX6_changingSwaps_32 : decode cX6_changingSwaps 32 = .ok (.invokevirtual 76, 3) := by decide +kernel
theorem dX6_changingSwaps_35 : decode cX6_changingSwaps 35 = .ok (.istore 5, 2) := by decide +kernel
theorem dX6_changingSwaps_37 : decode cX6_changingSwaps 37 = .ok (.iconst 0, 1) := by decide +kernel
theorem dX6_changingSwaps_38 : decode cX6_changingSwaps 38 = .ok (.istore 6, 2) := by decide +kernel
theorem dX6_changingSwaps_40 : decode cX6_changingSwaps 40 = .ok (.iconst 0, 1) := by decide +kernel
theorem dX6_changingSwaps_41 : decode cX6_changingSwaps 41 = .ok (.istore 7, 2) := by decide +kernel
theorem dX6_changingSwaps_43 : decode cX6_changingSwaps 43 = .ok (.iload 7, 2) := by decide +kernel
theorem dX6_changingSwaps_45 : decode cX6_changingSwaps 45 = .ok (.aload_n 0, 1) := by decide +kernel
theorem dX6_changingSwaps_46 : decode cX6_changingSwaps 46 = .ok (.getfield 9, 3) := by decide +kernel
theorem dX6_changingSwaps_49 : decode cX6_changingSwaps 49 = .ok (.getfield 19, 3) := by decide +kernel
theorem dX6_changingSwaps_52 : decode cX6_changingSwaps 52 = .ok (.if_icmp .ge 84, 3) := by decide +kernel
theorem dX6_changingSwaps_55 : decode cX6_changingSwaps 55 = .ok (.iload 7, 2) := by decide +kernel
theorem dX6_changingSwaps_57 : decode cX6_changingSwaps 57 = .ok (.iconst 1, 1) := by decide +kernel
theorem dX6_changingSwaps_58 : decode cX6_changingSwaps 58 = .ok (.iadd, 1) := by decide +kernel
theorem dX6_changingSwaps_59 : decode cX6_changingSwaps 59 = .ok (.istore 8, 2) := by decide +kernel
theorem dX6_changingSwaps_61 : decode cX6_changingSwaps 61 = .ok (.iload 8, 2) := by decide +kernel
theorem dX6_changingSwaps_63 : decode cX6_changingSwaps 63 = .ok (.aload_n 0, 1) := by decide +kernel
theorem dX6_changingSwaps_64 : decode cX6_changingSwaps 64 = .ok (.getfield 9, 3) := by decide +kernel
theorem dX6_changingSwaps_67 : decode cX6_changingSwaps 67 = .ok (.getfield 19, 3) := by decide +kernel
theorem dX6_changingSwaps_70 : decode cX6_changingSwaps 70 = .ok (.if_icmp .ge 60, 3) := by decide +kernel
theorem dX6_changingSwaps_73 : decode cX6_changingSwaps 73 = .ok (.iload_n 3, 1) := by decide +kernel
theorem dX6_changingSwaps_74 : decode cX6_changingSwaps 74 = .ok (.iload 7, 2) := by decide +kernel
theorem dX6_changingSwaps_76 : decode cX6_changingSwaps 76 = .ok (.iload 8, 2) := by decide +kernel
theorem dX6_changingSwaps_78 : decode cX6_changingSwaps 78 = .ok (.invokestatic 101, 3) := by decide +kernel
theorem dX6_changingSwaps_81 : decode cX6_changingSwaps 81 = .ok (.istore 9, 2) := by decide +kernel
theorem dX6_changingSwaps_83 : decode cX6_changingSwaps 83 = .ok (.aload_n 0, 1) := by decide +kernel
theorem dX6_changingSwaps_84 : decode cX6_changingSwaps 84 = .ok (.getfield 15, 3) := by decide +kernel
theorem dX6_changingSwaps_87 : decode cX6_changingSwaps 87 = .ok (.getfield 37, 3) := by decide +kernel
theorem dX6_changingSwaps_90 : decode cX6_changingSwaps 90 = .ok (.iload 7, 2) := by decide +kernel
theorem dX6_changingSwaps_92 : decode cX6_changingSwaps 92 = .ok (.iaload, 1) := by decide +kernel
theorem dX6_changingSwaps_93 : decode cX6_changingSwaps 93 = .ok (.aload_n 0, 1) := by decide +kernel
theorem dX6_changingSwaps_94 : decode cX6_changingSwaps 94 = .ok (.getfield 15, 3) := by decide +kernel
theorem dX6_changingSwaps_97 : decode cX6_changingSwaps 97 = .ok (.getfield 37, 3) := by decide +kernel
theorem dX6_changingSwaps_100 : decode cX6_changingSwaps 100 = .ok (.iload 8, 2) := by decide +kernel
theorem dX6_changingSwaps_102 : decode cX6_changingSwaps 102 = .ok (.iaload, 1) := by decide +kernel
theorem dX6_changingSwaps_103 : decode cX6_changingSwaps 103 = .ok (.if_icmp .eq 21, 3) := by decide +kernel
theorem dX6_changingSwaps_106 : decode cX6_changingSwaps 106 = .ok (.aload_n 0, 1) := by decide +kernel
theorem dX6_changingSwaps_107 : decode cX6_changingSwaps 107 = .ok (.iload_n 2, 1) := by decide +kernel
