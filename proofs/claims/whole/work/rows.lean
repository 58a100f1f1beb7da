section
-- ===== PART A: goes FIRST, ahead of the names: the tables' words, and 'selects' of the private methods out of them =====
/-- a private method of a class that the tables say can be made, by its rows of tables_1 -/
def lw_okq (q : MethodName × Nat) : Prop := (q.1.cls ≠ "java/lang/invoke/MethodHandle" ∧ q.1.cls ≠ "java/lang/invoke/VarHandle") ∧ Cond.instantiable q.1.cls q.2 ∈ tables_1 ∧ Cond.privateMethod q.1 ∈ tables_1 ∧ Cond.instanceMethod q.1 ∈ tables_1
theorem lw_p0 : lw_okq (⟨"RegaliaVotes$Reader", "begin", "(I)V"⟩, 9) := ⟨⟨by decide +kernel, by decide +kernel⟩, List.mem_of_getElem? (i := 69) (by decide +kernel), List.mem_of_getElem? (i := 264) (by decide +kernel), List.mem_of_getElem? (i := 265) (by decide +kernel)⟩
theorem lw_p1 : lw_okq (⟨"RegaliaVotes$Reader", "nextToken", "()V"⟩, 9) := ⟨⟨by decide +kernel, by decide +kernel⟩, List.mem_of_getElem? (i := 69) (by decide +kernel), List.mem_of_getElem? (i := 275) (by decide +kernel), List.mem_of_getElem? (i := 276) (by decide +kernel)⟩
theorem lw_p2 : lw_okq (⟨"RegaliaVotes$Reader", "takeDigits", "()V"⟩, 9) := ⟨⟨by decide +kernel, by decide +kernel⟩, List.mem_of_getElem? (i := 69) (by decide +kernel), List.mem_of_getElem? (i := 282) (by decide +kernel), List.mem_of_getElem? (i := 283) (by decide +kernel)⟩
theorem lw_p3 : lw_okq (⟨"RegaliaVotes$Reader", "readOfficers", "(I)V"⟩, 9) := ⟨⟨by decide +kernel, by decide +kernel⟩, List.mem_of_getElem? (i := 69) (by decide +kernel), List.mem_of_getElem? (i := 286) (by decide +kernel), List.mem_of_getElem? (i := 287) (by decide +kernel)⟩
theorem lw_p4 : lw_okq (⟨"RegaliaVotes$Reader", "markFault", "()V"⟩, 9) := ⟨⟨by decide +kernel, by decide +kernel⟩, List.mem_of_getElem? (i := 69) (by decide +kernel), List.mem_of_getElem? (i := 290) (by decide +kernel), List.mem_of_getElem? (i := 291) (by decide +kernel)⟩
theorem lw_p5 : lw_okq (⟨"RegaliaVotes$Reader", "readNumber", "(II)I"⟩, 9) := ⟨⟨by decide +kernel, by decide +kernel⟩, List.mem_of_getElem? (i := 69) (by decide +kernel), List.mem_of_getElem? (i := 294) (by decide +kernel), List.mem_of_getElem? (i := 295) (by decide +kernel)⟩
theorem lw_p6 : lw_okq (⟨"RegaliaVotes$Reader", "readThing", "()V"⟩, 9) := ⟨⟨by decide +kernel, by decide +kernel⟩, List.mem_of_getElem? (i := 69) (by decide +kernel), List.mem_of_getElem? (i := 298) (by decide +kernel), List.mem_of_getElem? (i := 299) (by decide +kernel)⟩
theorem lw_p7 : lw_okq (⟨"RegaliaVotes$Reader", "readWarmth", "()V"⟩, 9) := ⟨⟨by decide +kernel, by decide +kernel⟩, List.mem_of_getElem? (i := 69) (by decide +kernel), List.mem_of_getElem? (i := 306) (by decide +kernel), List.mem_of_getElem? (i := 307) (by decide +kernel)⟩
theorem lw_p8 : lw_okq (⟨"RegaliaVotes$Reader", "readItemEnd", "()V"⟩, 9) := ⟨⟨by decide +kernel, by decide +kernel⟩, List.mem_of_getElem? (i := 69) (by decide +kernel), List.mem_of_getElem? (i := 310) (by decide +kernel), List.mem_of_getElem? (i := 311) (by decide +kernel)⟩
theorem lw_p9 : lw_okq (⟨"RegaliaVotes", "noThing", "(I)Z"⟩, 13) := ⟨⟨by decide +kernel, by decide +kernel⟩, List.mem_of_getElem? (i := 15) (by decide +kernel), List.mem_of_getElem? (i := 341) (by decide +kernel), List.mem_of_getElem? (i := 342) (by decide +kernel)⟩
theorem lw_p10 : lw_okq (⟨"RegaliaVotes$Vote", "able", "()I"⟩, 2) := ⟨⟨by decide +kernel, by decide +kernel⟩, List.mem_of_getElem? (i := 143) (by decide +kernel), List.mem_of_getElem? (i := 356) (by decide +kernel), List.mem_of_getElem? (i := 357) (by decide +kernel)⟩
theorem lw_p11 : lw_okq (⟨"RegaliaVotes", "noOfficer", "(I)Z"⟩, 13) := ⟨⟨by decide +kernel, by decide +kernel⟩, List.mem_of_getElem? (i := 15) (by decide +kernel), List.mem_of_getElem? (i := 369) (by decide +kernel), List.mem_of_getElem? (i := 370) (by decide +kernel)⟩
theorem lw_p12 : lw_okq (⟨"RegaliaVotes$Power", "carries", "(II)Z"⟩, 1) := ⟨⟨by decide +kernel, by decide +kernel⟩, List.mem_of_getElem? (i := 157) (by decide +kernel), List.mem_of_getElem? (i := 479) (by decide +kernel), List.mem_of_getElem? (i := 480) (by decide +kernel)⟩
theorem lw_p13 : lw_okq (⟨"RegaliaVotes$Power", "isLeast", "(II)Z"⟩, 1) := ⟨⟨by decide +kernel, by decide +kernel⟩, List.mem_of_getElem? (i := 157) (by decide +kernel), List.mem_of_getElem? (i := 509) (by decide +kernel), List.mem_of_getElem? (i := 510) (by decide +kernel)⟩
theorem lw_p14 : lw_okq (⟨"RegaliaVotes$Vote", "isAnyoneWell", "()Z"⟩, 2) := ⟨⟨by decide +kernel, by decide +kernel⟩, List.mem_of_getElem? (i := 143) (by decide +kernel), List.mem_of_getElem? (i := 560) (by decide +kernel), List.mem_of_getElem? (i := 561) (by decide +kernel)⟩
theorem lw_p15 : lw_okq (⟨"RegaliaVotes$Minutes", "isSoIfFor", "(III)Z"⟩, 4) := ⟨⟨by decide +kernel, by decide +kernel⟩, List.mem_of_getElem? (i := 167) (by decide +kernel), List.mem_of_getElem? (i := 596) (by decide +kernel), List.mem_of_getElem? (i := 597) (by decide +kernel)⟩
def lw_privs_1 : List (MethodName × Nat) := [(⟨"RegaliaVotes$Reader", "begin", "(I)V"⟩, 9), (⟨"RegaliaVotes$Reader", "nextToken", "()V"⟩, 9), (⟨"RegaliaVotes$Reader", "takeDigits", "()V"⟩, 9), (⟨"RegaliaVotes$Reader", "readOfficers", "(I)V"⟩, 9), (⟨"RegaliaVotes$Reader", "markFault", "()V"⟩, 9), (⟨"RegaliaVotes$Reader", "readNumber", "(II)I"⟩, 9), (⟨"RegaliaVotes$Reader", "readThing", "()V"⟩, 9), (⟨"RegaliaVotes$Reader", "readWarmth", "()V"⟩, 9), (⟨"RegaliaVotes$Reader", "readItemEnd", "()V"⟩, 9), (⟨"RegaliaVotes", "noThing", "(I)Z"⟩, 13), (⟨"RegaliaVotes$Vote", "able", "()I"⟩, 2), (⟨"RegaliaVotes", "noOfficer", "(I)Z"⟩, 13), (⟨"RegaliaVotes$Power", "carries", "(II)Z"⟩, 1), (⟨"RegaliaVotes$Power", "isLeast", "(II)Z"⟩, 1), (⟨"RegaliaVotes$Vote", "isAnyoneWell", "()Z"⟩, 2), (⟨"RegaliaVotes$Minutes", "isSoIfFor", "(III)Z"⟩, 4)]
theorem lw_r1 : ∀ q ∈ lw_privs_1, lw_okq q := List.forall_mem_cons.mpr ⟨lw_p0, List.forall_mem_cons.mpr ⟨lw_p1, List.forall_mem_cons.mpr ⟨lw_p2, List.forall_mem_cons.mpr ⟨lw_p3, List.forall_mem_cons.mpr ⟨lw_p4, List.forall_mem_cons.mpr ⟨lw_p5, List.forall_mem_cons.mpr ⟨lw_p6, List.forall_mem_cons.mpr ⟨lw_p7, List.forall_mem_cons.mpr ⟨lw_p8, List.forall_mem_cons.mpr ⟨lw_p9, List.forall_mem_cons.mpr ⟨lw_p10, List.forall_mem_cons.mpr ⟨lw_p11, List.forall_mem_cons.mpr ⟨lw_p12, List.forall_mem_cons.mpr ⟨lw_p13, List.forall_mem_cons.mpr ⟨lw_p14, List.forall_mem_cons.mpr ⟨lw_p15, fun _ h => absurd h List.not_mem_nil⟩⟩⟩⟩⟩⟩⟩⟩⟩⟩⟩⟩⟩⟩⟩⟩
theorem lw_p16 : lw_okq (⟨"RegaliaVotes$Minutes", "isSoIfSick", "(I)Z"⟩, 4) := ⟨⟨by decide +kernel, by decide +kernel⟩, List.mem_of_getElem? (i := 167) (by decide +kernel), List.mem_of_getElem? (i := 617) (by decide +kernel), List.mem_of_getElem? (i := 618) (by decide +kernel)⟩
theorem lw_p17 : lw_okq (⟨"RegaliaVotes$Vote", "chancesOfSick", "(II)I"⟩, 2) := ⟨⟨by decide +kernel, by decide +kernel⟩, List.mem_of_getElem? (i := 143) (by decide +kernel), List.mem_of_getElem? (i := 631) (by decide +kernel), List.mem_of_getElem? (i := 632) (by decide +kernel)⟩
theorem lw_p18 : lw_okq (⟨"RegaliaVotes", "asThing", "(I)I"⟩, 13) := ⟨⟨by decide +kernel, by decide +kernel⟩, List.mem_of_getElem? (i := 15) (by decide +kernel), List.mem_of_getElem? (i := 644) (by decide +kernel), List.mem_of_getElem? (i := 645) (by decide +kernel)⟩
theorem lw_p19 : lw_okq (⟨"RegaliaVotes", "asSceptre", "(I)I"⟩, 13) := ⟨⟨by decide +kernel, by decide +kernel⟩, List.mem_of_getElem? (i := 15) (by decide +kernel), List.mem_of_getElem? (i := 648) (by decide +kernel), List.mem_of_getElem? (i := 649) (by decide +kernel)⟩
theorem lw_p20 : lw_okq (⟨"RegaliaVotes", "asOrb", "(I)I"⟩, 13) := ⟨⟨by decide +kernel, by decide +kernel⟩, List.mem_of_getElem? (i := 15) (by decide +kernel), List.mem_of_getElem? (i := 653) (by decide +kernel), List.mem_of_getElem? (i := 654) (by decide +kernel)⟩
theorem lw_p21 : lw_okq (⟨"RegaliaVotes", "asRing", "(I)I"⟩, 13) := ⟨⟨by decide +kernel, by decide +kernel⟩, List.mem_of_getElem? (i := 15) (by decide +kernel), List.mem_of_getElem? (i := 658) (by decide +kernel), List.mem_of_getElem? (i := 659) (by decide +kernel)⟩
theorem lw_p22 : lw_okq (⟨"RegaliaVotes", "asSeal", "(I)I"⟩, 13) := ⟨⟨by decide +kernel, by decide +kernel⟩, List.mem_of_getElem? (i := 15) (by decide +kernel), List.mem_of_getElem? (i := 663) (by decide +kernel), List.mem_of_getElem? (i := 664) (by decide +kernel)⟩
theorem lw_p23 : lw_okq (⟨"RegaliaVotes", "asSpoon", "(I)I"⟩, 13) := ⟨⟨by decide +kernel, by decide +kernel⟩, List.mem_of_getElem? (i := 15) (by decide +kernel), List.mem_of_getElem? (i := 668) (by decide +kernel), List.mem_of_getElem? (i := 669) (by decide +kernel)⟩
theorem lw_p24 : lw_okq (⟨"RegaliaVotesModel", "advances", "()V"⟩, 24) := ⟨⟨by decide +kernel, by decide +kernel⟩, List.mem_of_getElem? (i := 693) (by decide +kernel), List.mem_of_getElem? (i := 787) (by decide +kernel), List.mem_of_getElem? (i := 788) (by decide +kernel)⟩
theorem lw_p25 : lw_okq (⟨"RegaliaVotesModel", "letterAt", "(I)I"⟩, 24) := ⟨⟨by decide +kernel, by decide +kernel⟩, List.mem_of_getElem? (i := 693) (by decide +kernel), List.mem_of_getElem? (i := 791) (by decide +kernel), List.mem_of_getElem? (i := 792) (by decide +kernel)⟩
theorem lw_p26 : lw_okq (⟨"RegaliaVotesModel", "isWell", "()Z"⟩, 24) := ⟨⟨by decide +kernel, by decide +kernel⟩, List.mem_of_getElem? (i := 693) (by decide +kernel), List.mem_of_getElem? (i := 795) (by decide +kernel), List.mem_of_getElem? (i := 796) (by decide +kernel)⟩
theorem lw_p27 : lw_okq (⟨"RegaliaVotesModel", "takes", "(Z)I"⟩, 24) := ⟨⟨by decide +kernel, by decide +kernel⟩, List.mem_of_getElem? (i := 693) (by decide +kernel), List.mem_of_getElem? (i := 799) (by decide +kernel), List.mem_of_getElem? (i := 800) (by decide +kernel)⟩
theorem lw_p28 : lw_okq (⟨"RegaliaVotesModel", "readsItem", "(I)V"⟩, 24) := ⟨⟨by decide +kernel, by decide +kernel⟩, List.mem_of_getElem? (i := 693) (by decide +kernel), List.mem_of_getElem? (i := 803) (by decide +kernel), List.mem_of_getElem? (i := 804) (by decide +kernel)⟩
theorem lw_p29 : lw_okq (⟨"RegaliaVotesModel", "number", "(II)I"⟩, 24) := ⟨⟨by decide +kernel, by decide +kernel⟩, List.mem_of_getElem? (i := 693) (by decide +kernel), List.mem_of_getElem? (i := 807) (by decide +kernel), List.mem_of_getElem? (i := 808) (by decide +kernel)⟩
theorem lw_p30 : lw_okq (⟨"RegaliaVotesModel", "settles", "()V"⟩, 24) := ⟨⟨by decide +kernel, by decide +kernel⟩, List.mem_of_getElem? (i := 693) (by decide +kernel), List.mem_of_getElem? (i := 811) (by decide +kernel), List.mem_of_getElem? (i := 812) (by decide +kernel)⟩
theorem lw_p31 : lw_okq (⟨"RegaliaVotesModel", "isThing", "(I)Z"⟩, 24) := ⟨⟨by decide +kernel, by decide +kernel⟩, List.mem_of_getElem? (i := 693) (by decide +kernel), List.mem_of_getElem? (i := 819) (by decide +kernel), List.mem_of_getElem? (i := 820) (by decide +kernel)⟩
def lw_privs_2 : List (MethodName × Nat) := [(⟨"RegaliaVotes$Minutes", "isSoIfSick", "(I)Z"⟩, 4), (⟨"RegaliaVotes$Vote", "chancesOfSick", "(II)I"⟩, 2), (⟨"RegaliaVotes", "asThing", "(I)I"⟩, 13), (⟨"RegaliaVotes", "asSceptre", "(I)I"⟩, 13), (⟨"RegaliaVotes", "asOrb", "(I)I"⟩, 13), (⟨"RegaliaVotes", "asRing", "(I)I"⟩, 13), (⟨"RegaliaVotes", "asSeal", "(I)I"⟩, 13), (⟨"RegaliaVotes", "asSpoon", "(I)I"⟩, 13), (⟨"RegaliaVotesModel", "advances", "()V"⟩, 24), (⟨"RegaliaVotesModel", "letterAt", "(I)I"⟩, 24), (⟨"RegaliaVotesModel", "isWell", "()Z"⟩, 24), (⟨"RegaliaVotesModel", "takes", "(Z)I"⟩, 24), (⟨"RegaliaVotesModel", "readsItem", "(I)V"⟩, 24), (⟨"RegaliaVotesModel", "number", "(II)I"⟩, 24), (⟨"RegaliaVotesModel", "settles", "()V"⟩, 24), (⟨"RegaliaVotesModel", "isThing", "(I)Z"⟩, 24)]
theorem lw_r2 : ∀ q ∈ lw_privs_2, lw_okq q := List.forall_mem_cons.mpr ⟨lw_p16, List.forall_mem_cons.mpr ⟨lw_p17, List.forall_mem_cons.mpr ⟨lw_p18, List.forall_mem_cons.mpr ⟨lw_p19, List.forall_mem_cons.mpr ⟨lw_p20, List.forall_mem_cons.mpr ⟨lw_p21, List.forall_mem_cons.mpr ⟨lw_p22, List.forall_mem_cons.mpr ⟨lw_p23, List.forall_mem_cons.mpr ⟨lw_p24, List.forall_mem_cons.mpr ⟨lw_p25, List.forall_mem_cons.mpr ⟨lw_p26, List.forall_mem_cons.mpr ⟨lw_p27, List.forall_mem_cons.mpr ⟨lw_p28, List.forall_mem_cons.mpr ⟨lw_p29, List.forall_mem_cons.mpr ⟨lw_p30, List.forall_mem_cons.mpr ⟨lw_p31, fun _ h => absurd h List.not_mem_nil⟩⟩⟩⟩⟩⟩⟩⟩⟩⟩⟩⟩⟩⟩⟩⟩
theorem lw_p32 : lw_okq (⟨"RegaliaVotesModel", "speaks", "([II)Z"⟩, 24) := ⟨⟨by decide +kernel, by decide +kernel⟩, List.mem_of_getElem? (i := 693) (by decide +kernel), List.mem_of_getElem? (i := 823) (by decide +kernel), List.mem_of_getElem? (i := 824) (by decide +kernel)⟩
theorem lw_p33 : lw_okq (⟨"RegaliaVotesModel", "isOfficer", "(I)Z"⟩, 24) := ⟨⟨by decide +kernel, by decide +kernel⟩, List.mem_of_getElem? (i := 693) (by decide +kernel), List.mem_of_getElem? (i := 831) (by decide +kernel), List.mem_of_getElem? (i := 832) (by decide +kernel)⟩
theorem lw_p34 : lw_okq (⟨"RegaliaVotesModel", "heldBy", "(I)I"⟩, 24) := ⟨⟨by decide +kernel, by decide +kernel⟩, List.mem_of_getElem? (i := 693) (by decide +kernel), List.mem_of_getElem? (i := 835) (by decide +kernel), List.mem_of_getElem? (i := 836) (by decide +kernel)⟩
theorem lw_p35 : lw_okq (⟨"RegaliaVotesModel", "voices", "([I)I"⟩, 24) := ⟨⟨by decide +kernel, by decide +kernel⟩, List.mem_of_getElem? (i := 693) (by decide +kernel), List.mem_of_getElem? (i := 839) (by decide +kernel), List.mem_of_getElem? (i := 840) (by decide +kernel)⟩
theorem lw_p36 : lw_okq (⟨"RegaliaVotesModel", "votesOf", "(I)I"⟩, 24) := ⟨⟨by decide +kernel, by decide +kernel⟩, List.mem_of_getElem? (i := 693) (by decide +kernel), List.mem_of_getElem? (i := 843) (by decide +kernel), List.mem_of_getElem? (i := 844) (by decide +kernel)⟩
theorem lw_p37 : lw_okq (⟨"RegaliaVotesModel", "saysYes", "([II)I"⟩, 24) := ⟨⟨by decide +kernel, by decide +kernel⟩, List.mem_of_getElem? (i := 693) (by decide +kernel), List.mem_of_getElem? (i := 854) (by decide +kernel), List.mem_of_getElem? (i := 855) (by decide +kernel)⟩
theorem lw_p38 : lw_okq (⟨"RegaliaVotesModel", "passes", "([II)Z"⟩, 24) := ⟨⟨by decide +kernel, by decide +kernel⟩, List.mem_of_getElem? (i := 693) (by decide +kernel), List.mem_of_getElem? (i := 858) (by decide +kernel), List.mem_of_getElem? (i := 859) (by decide +kernel)⟩
theorem lw_p39 : lw_okq (⟨"RegaliaVotesModel", "passesBy", "(II)Z"⟩, 24) := ⟨⟨by decide +kernel, by decide +kernel⟩, List.mem_of_getElem? (i := 693) (by decide +kernel), List.mem_of_getElem? (i := 862) (by decide +kernel), List.mem_of_getElem? (i := 863) (by decide +kernel)⟩
theorem lw_p40 : lw_okq (⟨"RegaliaVotesModel", "most", "()I"⟩, 24) := ⟨⟨by decide +kernel, by decide +kernel⟩, List.mem_of_getElem? (i := 693) (by decide +kernel), List.mem_of_getElem? (i := 870) (by decide +kernel), List.mem_of_getElem? (i := 871) (by decide +kernel)⟩
theorem lw_p41 : lw_okq (⟨"RegaliaVotesModel", "notes", "()V"⟩, 24) := ⟨⟨by decide +kernel, by decide +kernel⟩, List.mem_of_getElem? (i := 693) (by decide +kernel), List.mem_of_getElem? (i := 878) (by decide +kernel), List.mem_of_getElem? (i := 879) (by decide +kernel)⟩
theorem lw_p42 : lw_okq (⟨"RegaliaVotesModel", "decides", "(I)I"⟩, 24) := ⟨⟨by decide +kernel, by decide +kernel⟩, List.mem_of_getElem? (i := 693) (by decide +kernel), List.mem_of_getElem? (i := 913) (by decide +kernel), List.mem_of_getElem? (i := 914) (by decide +kernel)⟩
theorem lw_p43 : lw_okq (⟨"RegaliaVotesModel", "carries", "(I)Z"⟩, 24) := ⟨⟨by decide +kernel, by decide +kernel⟩, List.mem_of_getElem? (i := 693) (by decide +kernel), List.mem_of_getElem? (i := 917) (by decide +kernel), List.mem_of_getElem? (i := 918) (by decide +kernel)⟩
theorem lw_p44 : lw_okq (⟨"RegaliaVotesModel", "isLeast", "(I)Z"⟩, 24) := ⟨⟨by decide +kernel, by decide +kernel⟩, List.mem_of_getElem? (i := 693) (by decide +kernel), List.mem_of_getElem? (i := 931) (by decide +kernel), List.mem_of_getElem? (i := 932) (by decide +kernel)⟩
theorem lw_p45 : lw_okq (⟨"RegaliaVotesModel", "swaysOf", "(I)I"⟩, 24) := ⟨⟨by decide +kernel, by decide +kernel⟩, List.mem_of_getElem? (i := 693) (by decide +kernel), List.mem_of_getElem? (i := 943) (by decide +kernel), List.mem_of_getElem? (i := 944) (by decide +kernel)⟩
theorem lw_p46 : lw_okq (⟨"RegaliaVotesModel", "asNow", "()V"⟩, 24) := ⟨⟨by decide +kernel, by decide +kernel⟩, List.mem_of_getElem? (i := 693) (by decide +kernel), List.mem_of_getElem? (i := 959) (by decide +kernel), List.mem_of_getElem? (i := 960) (by decide +kernel)⟩
theorem lw_p47 : lw_okq (⟨"RegaliaVotesModel", "isAsRecorded", "([I)Z"⟩, 24) := ⟨⟨by decide +kernel, by decide +kernel⟩, List.mem_of_getElem? (i := 693) (by decide +kernel), List.mem_of_getElem? (i := 979) (by decide +kernel), List.mem_of_getElem? (i := 980) (by decide +kernel)⟩
def lw_privs_3 : List (MethodName × Nat) := [(⟨"RegaliaVotesModel", "speaks", "([II)Z"⟩, 24), (⟨"RegaliaVotesModel", "isOfficer", "(I)Z"⟩, 24), (⟨"RegaliaVotesModel", "heldBy", "(I)I"⟩, 24), (⟨"RegaliaVotesModel", "voices", "([I)I"⟩, 24), (⟨"RegaliaVotesModel", "votesOf", "(I)I"⟩, 24), (⟨"RegaliaVotesModel", "saysYes", "([II)I"⟩, 24), (⟨"RegaliaVotesModel", "passes", "([II)Z"⟩, 24), (⟨"RegaliaVotesModel", "passesBy", "(II)Z"⟩, 24), (⟨"RegaliaVotesModel", "most", "()I"⟩, 24), (⟨"RegaliaVotesModel", "notes", "()V"⟩, 24), (⟨"RegaliaVotesModel", "decides", "(I)I"⟩, 24), (⟨"RegaliaVotesModel", "carries", "(I)Z"⟩, 24), (⟨"RegaliaVotesModel", "isLeast", "(I)Z"⟩, 24), (⟨"RegaliaVotesModel", "swaysOf", "(I)I"⟩, 24), (⟨"RegaliaVotesModel", "asNow", "()V"⟩, 24), (⟨"RegaliaVotesModel", "isAsRecorded", "([I)Z"⟩, 24)]
theorem lw_r3 : ∀ q ∈ lw_privs_3, lw_okq q := List.forall_mem_cons.mpr ⟨lw_p32, List.forall_mem_cons.mpr ⟨lw_p33, List.forall_mem_cons.mpr ⟨lw_p34, List.forall_mem_cons.mpr ⟨lw_p35, List.forall_mem_cons.mpr ⟨lw_p36, List.forall_mem_cons.mpr ⟨lw_p37, List.forall_mem_cons.mpr ⟨lw_p38, List.forall_mem_cons.mpr ⟨lw_p39, List.forall_mem_cons.mpr ⟨lw_p40, List.forall_mem_cons.mpr ⟨lw_p41, List.forall_mem_cons.mpr ⟨lw_p42, List.forall_mem_cons.mpr ⟨lw_p43, List.forall_mem_cons.mpr ⟨lw_p44, List.forall_mem_cons.mpr ⟨lw_p45, List.forall_mem_cons.mpr ⟨lw_p46, List.forall_mem_cons.mpr ⟨lw_p47, fun _ h => absurd h List.not_mem_nil⟩⟩⟩⟩⟩⟩⟩⟩⟩⟩⟩⟩⟩⟩⟩⟩
def lw_privs : List (MethodName × Nat) := lw_privs_1 ++ (lw_privs_2 ++ (lw_privs_3))
def lw_tbl : List Cond := k2_sels lw_privs ++ tables_1
theorem lw_privs_ok : ∀ q ∈ lw_privs, lw_okq q := by
  show ∀ q ∈ lw_privs_1 ++ (lw_privs_2 ++ (lw_privs_3)), lw_okq q
  exact List.forall_mem_append.mpr ⟨lw_r1, List.forall_mem_append.mpr ⟨lw_r2, lw_r3⟩⟩
end
section
/-! ===== BEGIN words of one list among another's, by their places ===== -/
theorem goodIn_r {big : List Cond} (ws : List Cond) (ps : List Nat) (hp : ws = ps.filterMap (fun i => big[i]?)) (h : ws.all goodWord = true) : GoodIn big ws := by
  intro w hw
  have h1 := List.all_eq_true.mp h w hw
  rw [hp] at hw
  obtain ⟨i, -, hi⟩ := List.mem_filterMap.mp hw
  have hm : w ∈ big := by first | exact List.mem_of_getElem? hi | exact List.getElem?_mem hi
  exact ⟨hm, good_of_word h1⟩
theorem goodIn_app {big a b : List Cond} (ha : GoodIn big a) (hb : GoodIn big b) : GoodIn big (a ++ b) := fun w h => (List.mem_append.mp h).elim (ha w) (hb w)
theorem goodIn_ca {big a b : List Cond} {c : Cond} (ha : GoodIn big (c :: a)) (hb : GoodIn big b) : GoodIn big (c :: (a ++ b)) := fun w h => (List.mem_cons.mp h).elim (fun e => ha w (List.mem_cons.mpr (Or.inl e))) (fun h => (List.mem_append.mp h).elim (fun h => ha w (List.mem_cons.mpr (Or.inr h))) (hb w))
theorem goodIn_sub {big ws : List Cond} (hm : ∀ w ∈ ws, w ∈ big) (h : ws.all goodWord = true) : GoodIn big ws := fun w hw => ⟨hm w hw, good_of_word (List.all_eq_true.mp h w hw)⟩
/-! ===== END ===== -/

/-! ===== BEGIN printed: names, fields, word lists, decode rows ===== -/
def RX0 : String := "RegaliaVotes$Council"
def TX0 : u_T := fun k => match k with
  | 0 => ("RegaliaVotes$Council", "things", "I", false)
  | 1 => ("RegaliaVotes$Council", "officers", "I", false)
  | 2 => ("RegaliaVotes$Council", "warmth", "I", false)
  | 3 => ("RegaliaVotes$Council", "sort", "[I", true)
  | 4 => ("RegaliaVotes$Council", "votes", "[I", true)
  | 5 => ("RegaliaVotes$Council", "forBills", "[I", true)
  | _ => ("RegaliaVotes$Council", "firstHolder", "[I", true)
def tyX0 : Nat → FieldType := fun k => match k with
  | 0 => .int
  | 1 => .int
  | 2 => .int
  | 3 => .array .int
  | 4 => .array .int
  | 5 => .array .int
  | _ => .array .int
abbrev wsX00 : List Cond := u_ws RX0 TX0 7
theorem nmX0 : ∀ a, a < 7 → ∀ b, b < 7 → a ≠ b → (TX0 a).2.1 ≠ (TX0 b).2.1 := by decide +kernel
theorem tyX0_ok : ∀ k, k < 7 → parseFieldDescriptor (TX0 k).2.2.1 = some (tyX0 k) := by decide +kernel
abbrev cX0_init : ByteArray := prog_2_method_1_code
def yX0_init : MethodName := ⟨RX0, "<init>", "()V"⟩
abbrev cX0_beginAnew : ByteArray := prog_2_method_2_code
def yX0_beginAnew : MethodName := ⟨RX0, "beginAnew", "()V"⟩
abbrev cX0_addThing : ByteArray := prog_2_method_3_code
def yX0_addThing : MethodName := ⟨RX0, "addThing", "(IIII)V"⟩
abbrev cX0_copyFrom : ByteArray := prog_2_method_4_code
def yX0_copyFrom : MethodName := ⟨RX0, "copyFrom", "(LRegaliaVotes$Council;)V"⟩
def RX1 : String := "RegaliaVotes$Minutes"
def TX1 : u_T := fun k => match k with
  | 0 => ("RegaliaVotes$Minutes", "vote", "LRegaliaVotes$Vote;", true)
  | 1 => ("RegaliaVotes$Minutes", "bills", "[I", true)
  | 2 => ("RegaliaVotes$Minutes", "outcomes", "[Z", true)
  | _ => ("RegaliaVotes$Minutes", "lines", "I", false)
def tyX1 : Nat → FieldType := fun k => match k with
  | 0 => .object "RegaliaVotes$Vote"
  | 1 => .array .int
  | 2 => .array .boolean
  | _ => .int
abbrev wsX10 : List Cond := u_ws RX1 TX1 4
theorem nmX1 : ∀ a, a < 4 → ∀ b, b < 4 → a ≠ b → (TX1 a).2.1 ≠ (TX1 b).2.1 := by decide +kernel
theorem tyX1_ok : ∀ k, k < 4 → parseFieldDescriptor (TX1 k).2.2.1 = some (tyX1 k) := by decide +kernel
abbrev cX1_init : ByteArray := prog_3_method_1_code
def yX1_init : MethodName := ⟨RX1, "<init>", "(LRegaliaVotes$Vote;)V"⟩
abbrev cX1_write : ByteArray := prog_3_method_2_code
def yX1_write : MethodName := ⟨RX1, "write", "(IZ)V"⟩
abbrev cX1_tearUp : ByteArray := prog_3_method_3_code
def yX1_tearUp : MethodName := ⟨RX1, "tearUp", "()V"⟩
abbrev cX1_isSoIfFor : ByteArray := prog_3_method_4_code
def yX1_isSoIfFor : MethodName := ⟨RX1, "isSoIfFor", "(III)Z"⟩
abbrev cX1_isSoIfSick : ByteArray := prog_3_method_5_code
def yX1_isSoIfSick : MethodName := ⟨RX1, "isSoIfSick", "(I)Z"⟩
abbrev cX1_possibleSets : ByteArray := prog_3_method_6_code
def yX1_possibleSets : MethodName := ⟨RX1, "possibleSets", "(I)I"⟩
abbrev cX1_leastPossibleSet : ByteArray := prog_3_method_7_code
def yX1_leastPossibleSet : MethodName := ⟨RX1, "leastPossibleSet", "(I)I"⟩
abbrev cX1_possiblySick : ByteArray := prog_3_method_8_code
def yX1_possiblySick : MethodName := ⟨RX1, "possiblySick", "()I"⟩
def RX2 : String := "RegaliaVotes$Moment"
def TX2 : u_T := fun k => match k with
  | 0 => ("RegaliaVotes$Moment", "holder", "[I", true)
  | 1 => ("RegaliaVotes$Moment", "warmth", "[I", true)
  | 2 => ("RegaliaVotes$Moment", "wash", "I", false)
  | 3 => ("RegaliaVotes$Moment", "turned", "I", false)
  | 4 => ("RegaliaVotes$Moment", "sick", "I", false)
  | 5 => ("RegaliaVotes$Moment", "put", "I", false)
  | _ => ("RegaliaVotes$Moment", "passed", "I", false)
def tyX2 : Nat → FieldType := fun k => match k with
  | 0 => .array .int
  | 1 => .array .int
  | 2 => .int
  | 3 => .int
  | 4 => .int
  | 5 => .int
  | _ => .int
abbrev wsX20 : List Cond := u_ws RX2 TX2 7
theorem nmX2 : ∀ a, a < 7 → ∀ b, b < 7 → a ≠ b → (TX2 a).2.1 ≠ (TX2 b).2.1 := by decide +kernel
theorem tyX2_ok : ∀ k, k < 7 → parseFieldDescriptor (TX2 k).2.2.1 = some (tyX2 k) := by decide +kernel
abbrev cX2_init : ByteArray := prog_4_method_1_code
def yX2_init : MethodName := ⟨RX2, "<init>", "()V"⟩
abbrev cX2_beginWith : ByteArray := prog_4_method_2_code
def yX2_beginWith : MethodName := ⟨RX2, "beginWith", "(LRegaliaVotes$Council;)V"⟩
abbrev cX2_cool : ByteArray := prog_4_method_3_code
def yX2_cool : MethodName := ⟨RX2, "cool", "()V"⟩
abbrev cX2_copyFrom : ByteArray := prog_4_method_4_code
def yX2_copyFrom : MethodName := ⟨RX2, "copyFrom", "(LRegaliaVotes$Moment;)V"⟩
def RX3 : String := "RegaliaVotes$Past"
def TX3 : u_T := fun k => match k with
  | 0 => ("RegaliaVotes$Past", "ring", "[LRegaliaVotes$Moment;", true)
  | 1 => ("RegaliaVotes$Past", "next", "I", false)
  | _ => ("RegaliaVotes$Past", "known", "I", false)
def tyX3 : Nat → FieldType := fun k => match k with
  | 0 => .array (.object "RegaliaVotes$Moment")
  | 1 => .int
  | _ => .int
abbrev wsX30 : List Cond := u_ws RX3 TX3 3
theorem nmX3 : ∀ a, a < 3 → ∀ b, b < 3 → a ≠ b → (TX3 a).2.1 ≠ (TX3 b).2.1 := by decide +kernel
theorem tyX3_ok : ∀ k, k < 3 → parseFieldDescriptor (TX3 k).2.2.1 = some (tyX3 k) := by decide +kernel
abbrev cX3_init : ByteArray := prog_5_method_1_code
def yX3_init : MethodName := ⟨RX3, "<init>", "()V"⟩
abbrev cX3_remember : ByteArray := prog_5_method_2_code
def yX3_remember : MethodName := ⟨RX3, "remember", "(LRegaliaVotes$Moment;)V"⟩
abbrev cX3_recall : ByteArray := prog_5_method_3_code
def yX3_recall : MethodName := ⟨RX3, "recall", "(LRegaliaVotes$Moment;)V"⟩
abbrev cX3_lose : ByteArray := prog_5_method_4_code
def yX3_lose : MethodName := ⟨RX3, "lose", "()V"⟩
def RX4 : String := "RegaliaVotes$Power"
def TX4 : u_T := fun k => match k with
  | _ => ("RegaliaVotes$Power", "vote", "LRegaliaVotes$Vote;", true)
def tyX4 : Nat → FieldType := fun k => match k with
  | _ => .object "RegaliaVotes$Vote"
abbrev wsX40 : List Cond := u_ws RX4 TX4 1
theorem nmX4 : ∀ a, a < 1 → ∀ b, b < 1 → a ≠ b → (TX4 a).2.1 ≠ (TX4 b).2.1 := by decide +kernel
theorem tyX4_ok : ∀ k, k < 1 → parseFieldDescriptor (TX4 k).2.2.1 = some (tyX4 k) := by decide +kernel
abbrev cX4_init : ByteArray := prog_6_method_1_code
def yX4_init : MethodName := ⟨RX4, "<init>", "(LRegaliaVotes$Vote;)V"⟩
abbrev cX4_ordersOf : ByteArray := prog_6_method_2_code
def yX4_ordersOf : MethodName := ⟨RX4, "ordersOf", "(I)I"⟩
abbrev cX4_carries : ByteArray := prog_6_method_3_code
def yX4_carries : MethodName := ⟨RX4, "carries", "(II)Z"⟩
abbrev cX4_orders : ByteArray := prog_6_method_4_code
def yX4_orders : MethodName := ⟨RX4, "orders", "()I"⟩
abbrev cX4_ordersDecided : ByteArray := prog_6_method_5_code
def yX4_ordersDecided : MethodName := ⟨RX4, "ordersDecided", "(II)I"⟩
abbrev cX4_powerless : ByteArray := prog_6_method_6_code
def yX4_powerless : MethodName := ⟨RX4, "powerless", "()I"⟩
abbrev cX4_isLeast : ByteArray := prog_6_method_7_code
def yX4_isLeast : MethodName := ⟨RX4, "isLeast", "(II)Z"⟩
abbrev cX4_leastSets : ByteArray := prog_6_method_8_code
def yX4_leastSets : MethodName := ⟨RX4, "leastSets", "()I"⟩
abbrev cX4_firstLeastSet : ByteArray := prog_6_method_9_code
def yX4_firstLeastSet : MethodName := ⟨RX4, "firstLeastSet", "()I"⟩
def RX5 : String := "RegaliaVotes$Reader"
def TX5 : u_T := fun k => match k with
  | 0 => ("RegaliaVotes$Reader", "text", "[C", true)
  | 1 => ("RegaliaVotes$Reader", "draft", "LRegaliaVotes$Council;", true)
  | 2 => ("RegaliaVotes$Reader", "length", "I", false)
  | 3 => ("RegaliaVotes$Reader", "place", "I", false)
  | 4 => ("RegaliaVotes$Reader", "token", "I", false)
  | 5 => ("RegaliaVotes$Reader", "tokenPlace", "I", false)
  | 6 => ("RegaliaVotes$Reader", "number", "I", false)
  | 7 => ("RegaliaVotes$Reader", "fault", "I", false)
  | _ => ("RegaliaVotes$Reader", "warmthTold", "Z", false)
def tyX5 : Nat → FieldType := fun k => match k with
  | 0 => .array .char
  | 1 => .object "RegaliaVotes$Council"
  | 2 => .int
  | 3 => .int
  | 4 => .int
  | 5 => .int
  | 6 => .int
  | 7 => .int
  | _ => .boolean
abbrev wsX50 : List Cond := u_ws RX5 TX5 9
theorem nmX5 : ∀ a, a < 9 → ∀ b, b < 9 → a ≠ b → (TX5 a).2.1 ≠ (TX5 b).2.1 := by decide +kernel
theorem tyX5_ok : ∀ k, k < 9 → parseFieldDescriptor (TX5 k).2.2.1 = some (tyX5 k) := by decide +kernel
abbrev cX5_init : ByteArray := prog_7_method_1_code
def yX5_init : MethodName := ⟨RX5, "<init>", "([CLRegaliaVotes$Council;)V"⟩
abbrev cX5_readText : ByteArray := prog_7_method_2_code
def yX5_readText : MethodName := ⟨RX5, "readText", "(I)I"⟩
abbrev cX5_begin : ByteArray := prog_7_method_3_code
def yX5_begin : MethodName := ⟨RX5, "begin", "(I)V"⟩
abbrev cX5_readItemEnd : ByteArray := prog_7_method_4_code
def yX5_readItemEnd : MethodName := ⟨RX5, "readItemEnd", "()V"⟩
abbrev cX5_readOfficers : ByteArray := prog_7_method_5_code
def yX5_readOfficers : MethodName := ⟨RX5, "readOfficers", "(I)V"⟩
abbrev cX5_readThing : ByteArray := prog_7_method_6_code
def yX5_readThing : MethodName := ⟨RX5, "readThing", "()V"⟩
abbrev cX5_readWarmth : ByteArray := prog_7_method_7_code
def yX5_readWarmth : MethodName := ⟨RX5, "readWarmth", "()V"⟩
abbrev cX5_readNumber : ByteArray := prog_7_method_8_code
def yX5_readNumber : MethodName := ⟨RX5, "readNumber", "(II)I"⟩
abbrev cX5_markFault : ByteArray := prog_7_method_9_code
def yX5_markFault : MethodName := ⟨RX5, "markFault", "()V"⟩
abbrev cX5_nextToken : ByteArray := prog_7_method_10_code
def yX5_nextToken : MethodName := ⟨RX5, "nextToken", "()V"⟩
abbrev cX5_takeDigits : ByteArray := prog_7_method_11_code
def yX5_takeDigits : MethodName := ⟨RX5, "takeDigits", "()V"⟩
abbrev cX5_isDigit : ByteArray := prog_7_method_12_code
def yX5_isDigit : MethodName := ⟨RX5, "isDigit", "(C)Z"⟩
def RX6 : String := "RegaliaVotes$Vote"
def TX6 : u_T := fun k => match k with
  | 0 => ("RegaliaVotes$Vote", "told", "LRegaliaVotes$Council;", true)
  | _ => ("RegaliaVotes$Vote", "moment", "LRegaliaVotes$Moment;", true)
def tyX6 : Nat → FieldType := fun k => match k with
  | 0 => .object "RegaliaVotes$Council"
  | _ => .object "RegaliaVotes$Moment"
abbrev wsX60 : List Cond := u_ws RX6 TX6 2
theorem nmX6 : ∀ a, a < 2 → ∀ b, b < 2 → a ≠ b → (TX6 a).2.1 ≠ (TX6 b).2.1 := by decide +kernel
theorem tyX6_ok : ∀ k, k < 2 → parseFieldDescriptor (TX6 k).2.2.1 = some (tyX6 k) := by decide +kernel
abbrev cX6_init : ByteArray := prog_8_method_1_code
def yX6_init : MethodName := ⟨RX6, "<init>", "(LRegaliaVotes$Council;LRegaliaVotes$Moment;)V"⟩
abbrev cX6_able : ByteArray := prog_8_method_2_code
def yX6_able : MethodName := ⟨RX6, "able", "()I"⟩
abbrev cX6_heldBy : ByteArray := prog_8_method_3_code
def yX6_heldBy : MethodName := ⟨RX6, "heldBy", "(I)I"⟩
abbrev cX6_voices : ByteArray := prog_8_method_4_code
def yX6_voices : MethodName := ⟨RX6, "voices", "()I"⟩
abbrev cX6_voicesIfSick : ByteArray := prog_8_method_5_code
def yX6_voicesIfSick : MethodName := ⟨RX6, "voicesIfSick", "(I)I"⟩
abbrev cX6_votesOf : ByteArray := prog_8_method_6_code
def yX6_votesOf : MethodName := ⟨RX6, "votesOf", "(I)I"⟩
abbrev cX6_yesOf : ByteArray := prog_8_method_7_code
def yX6_yesOf : MethodName := ⟨RX6, "yesOf", "(I)I"⟩
abbrev cX6_yesIfFor : ByteArray := prog_8_method_8_code
def yX6_yesIfFor : MethodName := ⟨RX6, "yesIfFor", "(III)I"⟩
abbrev cX6_passesBy : ByteArray := prog_8_method_9_code
def yX6_passesBy : MethodName := ⟨RX6, "passesBy", "(II)Z"⟩
abbrev cX6_passes : ByteArray := prog_8_method_10_code
def yX6_passes : MethodName := ⟨RX6, "passes", "(I)Z"⟩
abbrev cX6_votesHeldBy : ByteArray := prog_8_method_11_code
def yX6_votesHeldBy : MethodName := ⟨RX6, "votesHeldBy", "(I)I"⟩
abbrev cX6_mostHolder : ByteArray := prog_8_method_12_code
def yX6_mostHolder : MethodName := ⟨RX6, "mostHolder", "()I"⟩
abbrev cX6_swayers : ByteArray := prog_8_method_13_code
def yX6_swayers : MethodName := ⟨RX6, "swayers", "(I)I"⟩
abbrev cX6_fewestTurned : ByteArray := prog_8_method_14_code
def yX6_fewestTurned : MethodName := ⟨RX6, "fewestTurned", "(I)I"⟩
abbrev cX6_fewestHanded : ByteArray := prog_8_method_15_code
def yX6_fewestHanded : MethodName := ⟨RX6, "fewestHanded", "(I)I"⟩
abbrev cX6_isAnyoneWell : ByteArray := prog_8_method_16_code
def yX6_isAnyoneWell : MethodName := ⟨RX6, "isAnyoneWell", "()Z"⟩
abbrev cX6_isFewer : ByteArray := prog_8_method_17_code
def yX6_isFewer : MethodName := ⟨RX6, "isFewer", "(II)Z"⟩
abbrev cX6_changingSwaps : ByteArray := prog_8_method_18_code
def yX6_changingSwaps : MethodName := ⟨RX6, "changingSwaps", "(I)I"⟩
abbrev cX6_exchanged : ByteArray := prog_8_method_19_code
def yX6_exchanged : MethodName := ⟨RX6, "exchanged", "(III)I"⟩
abbrev cX6_chances : ByteArray := prog_8_method_20_code
def yX6_chances : MethodName := ⟨RX6, "chances", "()I"⟩
abbrev cX6_chancesToPass : ByteArray := prog_8_method_21_code
def yX6_chancesToPass : MethodName := ⟨RX6, "chancesToPass", "(II)I"⟩
abbrev cX6_chancesOfSick : ByteArray := prog_8_method_22_code
def yX6_chancesOfSick : MethodName := ⟨RX6, "chancesOfSick", "(II)I"⟩
def RX7 : String := "RegaliaVotes"
def TX7 : u_T := fun k => match k with
  | 0 => ("RegaliaVotes", "text", "[C", true)
  | 1 => ("RegaliaVotes", "letters", "I", false)
  | 2 => ("RegaliaVotes", "told", "LRegaliaVotes$Council;", true)
  | 3 => ("RegaliaVotes", "draft", "LRegaliaVotes$Council;", true)
  | 4 => ("RegaliaVotes", "reader", "LRegaliaVotes$Reader;", true)
  | 5 => ("RegaliaVotes", "moment", "LRegaliaVotes$Moment;", true)
  | 6 => ("RegaliaVotes", "vote", "LRegaliaVotes$Vote;", true)
  | 7 => ("RegaliaVotes", "powers", "LRegaliaVotes$Power;", true)
  | 8 => ("RegaliaVotes", "minutes", "LRegaliaVotes$Minutes;", true)
  | 9 => ("RegaliaVotes", "past", "LRegaliaVotes$Past;", true)
  | 10 => ("RegaliaVotes", "images", "[LRegaliaVotes$Moment;", true)
  | 11 => ("RegaliaVotes", "kept", "I", false)
  | _ => ("RegaliaVotes", "traced", "J", false)
def tyX7 : Nat → FieldType := fun k => match k with
  | 0 => .array .char
  | 1 => .int
  | 2 => .object "RegaliaVotes$Council"
  | 3 => .object "RegaliaVotes$Council"
  | 4 => .object "RegaliaVotes$Reader"
  | 5 => .object "RegaliaVotes$Moment"
  | 6 => .object "RegaliaVotes$Vote"
  | 7 => .object "RegaliaVotes$Power"
  | 8 => .object "RegaliaVotes$Minutes"
  | 9 => .object "RegaliaVotes$Past"
  | 10 => .array (.object "RegaliaVotes$Moment")
  | 11 => .int
  | _ => .long
abbrev wsX70 : List Cond := u_ws RX7 TX7 13
theorem nmX7 : ∀ a, a < 13 → ∀ b, b < 13 → a ≠ b → (TX7 a).2.1 ≠ (TX7 b).2.1 := by decide +kernel
theorem tyX7_ok : ∀ k, k < 13 → parseFieldDescriptor (TX7 k).2.2.1 = some (tyX7 k) := by decide +kernel
abbrev cX7_init : ByteArray := prog_1_method_1_code
def yX7_init : MethodName := ⟨RX7, "<init>", "()V"⟩
abbrev cX7_type : ByteArray := prog_1_method_2_code
def yX7_type : MethodName := ⟨RX7, "type", "(I)I"⟩
abbrev cX7_clear : ByteArray := prog_1_method_3_code
def yX7_clear : MethodName := ⟨RX7, "clear", "()I"⟩
abbrev cX7_council : ByteArray := prog_1_method_4_code
def yX7_council : MethodName := ⟨RX7, "council", "()I"⟩
abbrev cX7_thing : ByteArray := prog_1_method_5_code
def yX7_thing : MethodName := ⟨RX7, "thing", "(II)I"⟩
abbrev cX7_officer : ByteArray := prog_1_method_6_code
def yX7_officer : MethodName := ⟨RX7, "officer", "(II)I"⟩
abbrev cX7_bill : ByteArray := prog_1_method_7_code
def yX7_bill : MethodName := ⟨RX7, "bill", "(II)I"⟩
abbrev cX7_now : ByteArray := prog_1_method_8_code
def yX7_now : MethodName := ⟨RX7, "now", "(I)I"⟩
abbrev cX7_puts : ByteArray := prog_1_method_9_code
def yX7_puts : MethodName := ⟨RX7, "puts", "(I)I"⟩
abbrev cX7_hands : ByteArray := prog_1_method_10_code
def yX7_hands : MethodName := ⟨RX7, "hands", "(II)I"⟩
abbrev cX7_washes : ByteArray := prog_1_method_11_code
def yX7_washes : MethodName := ⟨RX7, "washes", "(I)I"⟩
abbrev cX7_hangs : ByteArray := prog_1_method_12_code
def yX7_hangs : MethodName := ⟨RX7, "hangs", "(I)I"⟩
abbrev cX7_warms : ByteArray := prog_1_method_13_code
def yX7_warms : MethodName := ⟨RX7, "warms", "(I)I"⟩
abbrev cX7_sickens : ByteArray := prog_1_method_14_code
def yX7_sickens : MethodName := ⟨RX7, "sickens", "(II)I"⟩
abbrev cX7_undo : ByteArray := prog_1_method_15_code
def yX7_undo : MethodName := ⟨RX7, "undo", "()I"⟩
abbrev cX7_power : ByteArray := prog_1_method_16_code
def yX7_power : MethodName := ⟨RX7, "power", "(II)I"⟩
abbrev cX7_least : ByteArray := prog_1_method_17_code
def yX7_least : MethodName := ⟨RX7, "least", "(I)I"⟩
abbrev cX7_dummies : ByteArray := prog_1_method_18_code
def yX7_dummies : MethodName := ⟨RX7, "dummies", "()I"⟩
abbrev cX7_sways : ByteArray := prog_1_method_19_code
def yX7_sways : MethodName := ⟨RX7, "sways", "(I)I"⟩
abbrev cX7_free : ByteArray := prog_1_method_20_code
def yX7_free : MethodName := ⟨RX7, "free", "()I"⟩
abbrev cX7_turn : ByteArray := prog_1_method_21_code
def yX7_turn : MethodName := ⟨RX7, "turn", "(I)I"⟩
abbrev cX7_hand : ByteArray := prog_1_method_22_code
def yX7_hand : MethodName := ⟨RX7, "hand", "(I)I"⟩
abbrev cX7_swaps : ByteArray := prog_1_method_23_code
def yX7_swaps : MethodName := ⟨RX7, "swaps", "(I)I"⟩
abbrev cX7_record : ByteArray := prog_1_method_24_code
def yX7_record : MethodName := ⟨RX7, "record", "(II)I"⟩
abbrev cX7_forget : ByteArray := prog_1_method_25_code
def yX7_forget : MethodName := ⟨RX7, "forget", "()I"⟩
abbrev cX7_isFor : ByteArray := prog_1_method_26_code
def yX7_isFor : MethodName := ⟨RX7, "isFor", "(II)I"⟩
abbrev cX7_who : ByteArray := prog_1_method_27_code
def yX7_who : MethodName := ⟨RX7, "who", "()I"⟩
abbrev cX7_odds : ByteArray := prog_1_method_28_code
def yX7_odds : MethodName := ⟨RX7, "odds", "(III)I"⟩
abbrev cX7_rate : ByteArray := prog_1_method_29_code
def yX7_rate : MethodName := ⟨RX7, "rate", "(II)I"⟩
abbrev cX7_keep : ByteArray := prog_1_method_30_code
def yX7_keep : MethodName := ⟨RX7, "keep", "(I)I"⟩
abbrev cX7_back : ByteArray := prog_1_method_31_code
def yX7_back : MethodName := ⟨RX7, "back", "(I)I"⟩
abbrev cX7_count : ByteArray := prog_1_method_32_code
def yX7_count : MethodName := ⟨RX7, "count", "(I)I"⟩
abbrev cX7_trace : ByteArray := prog_1_method_33_code
def yX7_trace : MethodName := ⟨RX7, "trace", "()J"⟩
abbrev cX7_asThing : ByteArray := prog_1_method_34_code
def yX7_asThing : MethodName := ⟨RX7, "asThing", "(I)I"⟩
abbrev cX7_asSceptre : ByteArray := prog_1_method_35_code
def yX7_asSceptre : MethodName := ⟨RX7, "asSceptre", "(I)I"⟩
abbrev cX7_asOrb : ByteArray := prog_1_method_36_code
def yX7_asOrb : MethodName := ⟨RX7, "asOrb", "(I)I"⟩
abbrev cX7_asRing : ByteArray := prog_1_method_37_code
def yX7_asRing : MethodName := ⟨RX7, "asRing", "(I)I"⟩
abbrev cX7_asSeal : ByteArray := prog_1_method_38_code
def yX7_asSeal : MethodName := ⟨RX7, "asSeal", "(I)I"⟩
abbrev cX7_asSpoon : ByteArray := prog_1_method_39_code
def yX7_asSpoon : MethodName := ⟨RX7, "asSpoon", "(I)I"⟩
abbrev cX7_noThing : ByteArray := prog_1_method_40_code
def yX7_noThing : MethodName := ⟨RX7, "noThing", "(I)Z"⟩
abbrev cX7_noOfficer : ByteArray := prog_1_method_41_code
def yX7_noOfficer : MethodName := ⟨RX7, "noOfficer", "(I)Z"⟩
abbrev cX7_noBill : ByteArray := prog_1_method_42_code
def yX7_noBill : MethodName := ⟨RX7, "noBill", "(I)Z"⟩
abbrev cX7_noTerm : ByteArray := prog_1_method_43_code
def yX7_noTerm : MethodName := ⟨RX7, "noTerm", "(I)Z"⟩
abbrev cX7_noImage : ByteArray := prog_1_method_44_code
def yX7_noImage : MethodName := ⟨RX7, "noImage", "(I)Z"⟩
abbrev cX7_bit : ByteArray := prog_1_method_45_code
def yX7_bit : MethodName := ⟨RX7, "bit", "(II)I"⟩
abbrev cX7_isWithin : ByteArray := prog_1_method_46_code
def yX7_isWithin : MethodName := ⟨RX7, "isWithin", "(II)Z"⟩
abbrev cX7_term : ByteArray := prog_1_method_47_code
def yX7_term : MethodName := ⟨RX7, "term", "(III)I"⟩
abbrev cX7_commonDivisor : ByteArray := prog_1_method_48_code
def yX7_commonDivisor : MethodName := ⟨RX7, "commonDivisor", "(II)I"⟩
def RX8 : String := "RegaliaVotesModel"
def TX8 : u_T := fun k => match k with
  | 0 => ("RegaliaVotesModel", "thrown", "I", false)
  | 1 => ("RegaliaVotesModel", "trace", "J", false)
  | 2 => ("RegaliaVotesModel", "text", "[I", true)
  | 3 => ("RegaliaVotesModel", "typed", "I", false)
  | 4 => ("RegaliaVotesModel", "next", "I", false)
  | 5 => ("RegaliaVotesModel", "token", "I", false)
  | 6 => ("RegaliaVotesModel", "place", "I", false)
  | 7 => ("RegaliaVotesModel", "value", "I", false)
  | 8 => ("RegaliaVotesModel", "fault", "I", false)
  | 9 => ("RegaliaVotesModel", "many", "[I", true)
  | 10 => ("RegaliaVotesModel", "sort", "[I", true)
  | 11 => ("RegaliaVotesModel", "votes", "[I", true)
  | 12 => ("RegaliaVotesModel", "bills", "[I", true)
  | 13 => ("RegaliaVotesModel", "holder", "[I", true)
  | 14 => ("RegaliaVotesModel", "isWarmthTold", "Z", false)
  | 15 => ("RegaliaVotesModel", "s", "[I", true)
  | 16 => ("RegaliaVotesModel", "w", "[I", true)
  | 17 => ("RegaliaVotesModel", "kept", "[I", true)
  | 18 => ("RegaliaVotesModel", "isKept", "[Z", true)
  | 19 => ("RegaliaVotesModel", "undos", "[I", true)
  | 20 => ("RegaliaVotesModel", "undoMany", "I", false)
  | 21 => ("RegaliaVotesModel", "recordBill", "[I", true)
  | 22 => ("RegaliaVotesModel", "recordIs", "[I", true)
  | _ => ("RegaliaVotesModel", "recordMany", "I", false)
def tyX8 : Nat → FieldType := fun k => match k with
  | 0 => .int
  | 1 => .long
  | 2 => .array .int
  | 3 => .int
  | 4 => .int
  | 5 => .int
  | 6 => .int
  | 7 => .int
  | 8 => .int
  | 9 => .array .int
  | 10 => .array .int
  | 11 => .array .int
  | 12 => .array .int
  | 13 => .array .int
  | 14 => .boolean
  | 15 => .array .int
  | 16 => .array .int
  | 17 => .array .int
  | 18 => .array .boolean
  | 19 => .array .int
  | 20 => .int
  | 21 => .array .int
  | 22 => .array .int
  | _ => .int
abbrev wsX80 : List Cond := u_ws RX8 TX8 24
theorem nmX8 : ∀ a, a < 24 → ∀ b, b < 24 → a ≠ b → (TX8 a).2.1 ≠ (TX8 b).2.1 := by decide +kernel
theorem tyX8_ok : ∀ k, k < 24 → parseFieldDescriptor (TX8 k).2.2.1 = some (tyX8 k) := by decide +kernel
abbrev cX8_init : ByteArray := prog_10_method_1_code
def yX8_init : MethodName := ⟨RX8, "<init>", "()V"⟩
abbrev cX8_in : ByteArray := prog_10_method_3_code
def yX8_in : MethodName := ⟨RX8, "in", "(III)Z"⟩
abbrev cX8_ones : ByteArray := prog_10_method_4_code
def yX8_ones : MethodName := ⟨RX8, "ones", "(I)I"⟩
abbrev cX8_type : ByteArray := prog_10_method_5_code
def yX8_type : MethodName := ⟨RX8, "type", "(I)I"⟩
abbrev cX8_clear : ByteArray := prog_10_method_6_code
def yX8_clear : MethodName := ⟨RX8, "clear", "()I"⟩
abbrev cX8_letterAt : ByteArray := prog_10_method_7_code
def yX8_letterAt : MethodName := ⟨RX8, "letterAt", "(I)I"⟩
abbrev cX8_advances : ByteArray := prog_10_method_8_code
def yX8_advances : MethodName := ⟨RX8, "advances", "()V"⟩
abbrev cX8_isWell : ByteArray := prog_10_method_9_code
def yX8_isWell : MethodName := ⟨RX8, "isWell", "()Z"⟩
abbrev cX8_takes : ByteArray := prog_10_method_10_code
def yX8_takes : MethodName := ⟨RX8, "takes", "(Z)I"⟩
abbrev cX8_number : ByteArray := prog_10_method_11_code
def yX8_number : MethodName := ⟨RX8, "number", "(II)I"⟩
abbrev cX8_readsItem : ByteArray := prog_10_method_12_code
def yX8_readsItem : MethodName := ⟨RX8, "readsItem", "(I)V"⟩
abbrev cX8_council : ByteArray := prog_10_method_13_code
def yX8_council : MethodName := ⟨RX8, "council", "()I"⟩
abbrev cX8_settles : ByteArray := prog_10_method_14_code
def yX8_settles : MethodName := ⟨RX8, "settles", "()V"⟩
abbrev cX8_isThing : ByteArray := prog_10_method_15_code
def yX8_isThing : MethodName := ⟨RX8, "isThing", "(I)Z"⟩
abbrev cX8_isOfficer : ByteArray := prog_10_method_16_code
def yX8_isOfficer : MethodName := ⟨RX8, "isOfficer", "(I)Z"⟩
abbrev cX8_isBill : ByteArray := prog_10_method_17_code
def yX8_isBill : MethodName := ⟨RX8, "isBill", "(I)Z"⟩
abbrev cX8_speaks : ByteArray := prog_10_method_18_code
def yX8_speaks : MethodName := ⟨RX8, "speaks", "([II)Z"⟩
abbrev cX8_voices : ByteArray := prog_10_method_19_code
def yX8_voices : MethodName := ⟨RX8, "voices", "([I)I"⟩
abbrev cX8_saysYes : ByteArray := prog_10_method_20_code
def yX8_saysYes : MethodName := ⟨RX8, "saysYes", "([II)I"⟩
abbrev cX8_votesOf : ByteArray := prog_10_method_21_code
def yX8_votesOf : MethodName := ⟨RX8, "votesOf", "(I)I"⟩
abbrev cX8_passesBy : ByteArray := prog_10_method_22_code
def yX8_passesBy : MethodName := ⟨RX8, "passesBy", "(II)Z"⟩
abbrev cX8_passes : ByteArray := prog_10_method_23_code
def yX8_passes : MethodName := ⟨RX8, "passes", "([II)Z"⟩
abbrev cX8_thing : ByteArray := prog_10_method_24_code
def yX8_thing : MethodName := ⟨RX8, "thing", "(II)I"⟩
abbrev cX8_heldBy : ByteArray := prog_10_method_25_code
def yX8_heldBy : MethodName := ⟨RX8, "heldBy", "(I)I"⟩
abbrev cX8_officer : ByteArray := prog_10_method_26_code
def yX8_officer : MethodName := ⟨RX8, "officer", "(II)I"⟩
abbrev cX8_bill : ByteArray := prog_10_method_27_code
def yX8_bill : MethodName := ⟨RX8, "bill", "(II)I"⟩
abbrev cX8_most : ByteArray := prog_10_method_28_code
def yX8_most : MethodName := ⟨RX8, "most", "()I"⟩
abbrev cX8_now : ByteArray := prog_10_method_29_code
def yX8_now : MethodName := ⟨RX8, "now", "(I)I"⟩
abbrev cX8_notes : ByteArray := prog_10_method_30_code
def yX8_notes : MethodName := ⟨RX8, "notes", "()V"⟩
abbrev cX8_puts : ByteArray := prog_10_method_31_code
def yX8_puts : MethodName := ⟨RX8, "puts", "(I)I"⟩
abbrev cX8_hands : ByteArray := prog_10_method_32_code
def yX8_hands : MethodName := ⟨RX8, "hands", "(II)I"⟩
abbrev cX8_washes : ByteArray := prog_10_method_33_code
def yX8_washes : MethodName := ⟨RX8, "washes", "(I)I"⟩
abbrev cX8_hangs : ByteArray := prog_10_method_34_code
def yX8_hangs : MethodName := ⟨RX8, "hangs", "(I)I"⟩
abbrev cX8_warms : ByteArray := prog_10_method_35_code
def yX8_warms : MethodName := ⟨RX8, "warms", "(I)I"⟩
abbrev cX8_sickens : ByteArray := prog_10_method_36_code
def yX8_sickens : MethodName := ⟨RX8, "sickens", "(II)I"⟩
abbrev cX8_undo : ByteArray := prog_10_method_37_code
def yX8_undo : MethodName := ⟨RX8, "undo", "()I"⟩
abbrev cX8_carries : ByteArray := prog_10_method_38_code
def yX8_carries : MethodName := ⟨RX8, "carries", "(I)Z"⟩
abbrev cX8_orders : ByteArray := prog_10_method_39_code
def yX8_orders : MethodName := ⟨RX8, "orders", "(I)I"⟩
abbrev cX8_decides : ByteArray := prog_10_method_40_code
def yX8_decides : MethodName := ⟨RX8, "decides", "(I)I"⟩
abbrev cX8_gcd : ByteArray := prog_10_method_41_code
def yX8_gcd : MethodName := ⟨RX8, "gcd", "(II)I"⟩
abbrev cX8_power : ByteArray := prog_10_method_42_code
def yX8_power : MethodName := ⟨RX8, "power", "(II)I"⟩
abbrev cX8_isLeast : ByteArray := prog_10_method_43_code
def yX8_isLeast : MethodName := ⟨RX8, "isLeast", "(I)Z"⟩
abbrev cX8_least : ByteArray := prog_10_method_44_code
def yX8_least : MethodName := ⟨RX8, "least", "(I)I"⟩
abbrev cX8_dummies : ByteArray := prog_10_method_45_code
def yX8_dummies : MethodName := ⟨RX8, "dummies", "()I"⟩
abbrev cX8_swaysOf : ByteArray := prog_10_method_46_code
def yX8_swaysOf : MethodName := ⟨RX8, "swaysOf", "(I)I"⟩
abbrev cX8_sways : ByteArray := prog_10_method_47_code
def yX8_sways : MethodName := ⟨RX8, "sways", "(I)I"⟩
abbrev cX8_free : ByteArray := prog_10_method_48_code
def yX8_free : MethodName := ⟨RX8, "free", "()I"⟩
abbrev cX8_turn : ByteArray := prog_10_method_49_code
def yX8_turn : MethodName := ⟨RX8, "turn", "(I)I"⟩
abbrev cX8_asNow : ByteArray := prog_10_method_50_code
def yX8_asNow : MethodName := ⟨RX8, "asNow", "()V"⟩
abbrev cX8_hand : ByteArray := prog_10_method_51_code
def yX8_hand : MethodName := ⟨RX8, "hand", "(I)I"⟩
abbrev cX8_swaps : ByteArray := prog_10_method_52_code
def yX8_swaps : MethodName := ⟨RX8, "swaps", "(I)I"⟩
abbrev cX8_record : ByteArray := prog_10_method_53_code
def yX8_record : MethodName := ⟨RX8, "record", "(II)I"⟩
abbrev cX8_forget : ByteArray := prog_10_method_54_code
def yX8_forget : MethodName := ⟨RX8, "forget", "()I"⟩
abbrev cX8_isAsRecorded : ByteArray := prog_10_method_55_code
def yX8_isAsRecorded : MethodName := ⟨RX8, "isAsRecorded", "([I)Z"⟩
abbrev cX8_isFor : ByteArray := prog_10_method_56_code
def yX8_isFor : MethodName := ⟨RX8, "isFor", "(II)I"⟩
abbrev cX8_who : ByteArray := prog_10_method_57_code
def yX8_who : MethodName := ⟨RX8, "who", "()I"⟩
abbrev cX8_odds : ByteArray := prog_10_method_58_code
def yX8_odds : MethodName := ⟨RX8, "odds", "(III)I"⟩
abbrev cX8_rate : ByteArray := prog_10_method_59_code
def yX8_rate : MethodName := ⟨RX8, "rate", "(II)I"⟩
abbrev cX8_keep : ByteArray := prog_10_method_60_code
def yX8_keep : MethodName := ⟨RX8, "keep", "(I)I"⟩
abbrev cX8_back : ByteArray := prog_10_method_61_code
def yX8_back : MethodName := ⟨RX8, "back", "(I)I"⟩
abbrev cX8_count : ByteArray := prog_10_method_62_code
def yX8_count : MethodName := ⟨RX8, "count", "(I)I"⟩
abbrev cX8_trace : ByteArray := prog_10_method_63_code
def yX8_trace : MethodName := ⟨RX8, "trace", "()J"⟩
def RJ6 : String := "java/lang/Integer"
def TJ6 : u_T := fun k => match k with
  | _ => ("", "", "", false)
def tyJ6 : Nat → FieldType := fun k => match k with
  | _ => .int
abbrev wsJ60 : List Cond := u_ws RJ6 TJ6 0
theorem nmJ6 : ∀ a, a < 0 → ∀ b, b < 0 → a ≠ b → (TJ6 a).2.1 ≠ (TJ6 b).2.1 := by decide +kernel
theorem tyJ6_ok : ∀ k, k < 0 → parseFieldDescriptor (TJ6 k).2.2.1 = some (tyJ6 k) := by decide +kernel
abbrev cJ6_bitCount_0f7a4 : ByteArray := prog_11_method_49_code
def yJ6_bitCount_0f7a4 : MethodName := ⟨RJ6, "bitCount", "(I)I"⟩
def RJ9 : String := "java/lang/Math"
def TJ9 : u_T := fun k => match k with
  | _ => ("", "", "", false)
def tyJ9 : Nat → FieldType := fun k => match k with
  | _ => .int
abbrev wsJ90 : List Cond := u_ws RJ9 TJ9 0
theorem nmJ9 : ∀ a, a < 0 → ∀ b, b < 0 → a ≠ b → (TJ9 a).2.1 ≠ (TJ9 b).2.1 := by decide +kernel
theorem tyJ9_ok : ∀ k, k < 0 → parseFieldDescriptor (TJ9 k).2.2.1 = some (tyJ9 k) := by decide +kernel
abbrev cJ9_min_7cf53 : ByteArray := prog_12_method_69_code
def yJ9_min_7cf53 : MethodName := ⟨RJ9, "min", "(II)I"⟩
def RJ10 : String := "java/lang/System"
def TJ10 : u_T := fun k => match k with
  | _ => ("", "", "", false)
def tyJ10 : Nat → FieldType := fun k => match k with
  | _ => .int
abbrev wsJ100 : List Cond := u_ws RJ10 TJ10 0
theorem nmJ10 : ∀ a, a < 0 → ∀ b, b < 0 → a ≠ b → (TJ10 a).2.1 ≠ (TJ10 b).2.1 := by decide +kernel
theorem tyJ10_ok : ∀ k, k < 0 → parseFieldDescriptor (TJ10 k).2.2.1 = some (tyJ10 k) := by decide +kernel
def RJ7 : String := "java/util/Arrays"
def TJ7 : u_T := fun k => match k with
  | _ => ("", "", "", false)
def tyJ7 : Nat → FieldType := fun k => match k with
  | _ => .int
abbrev wsJ70 : List Cond := u_ws RJ7 TJ7 0
theorem nmJ7 : ∀ a, a < 0 → ∀ b, b < 0 → a ≠ b → (TJ7 a).2.1 ≠ (TJ7 b).2.1 := by decide +kernel
theorem tyJ7_ok : ∀ k, k < 0 → parseFieldDescriptor (TJ7 k).2.2.1 = some (tyJ7 k) := by decide +kernel
abbrev cJ7_fill_53178 : ByteArray := prog_14_method_103_code
def yJ7_fill_53178 : MethodName := ⟨RJ7, "fill", "([II)V"⟩
def RL : String := "RegaliaVotesLaw"
abbrev cL_law : ByteArray := code
def yL_law : MethodName := ⟨RL, "law", "([I)Z"⟩
def wsX0_init : List Cond := .code yX0_init cX0_init 1 none :: ([.methodLink RX0 3 objectInit, .instanceMethod objectInit, .code objectInit ⟨#[0xb1]⟩ 1 none, .fieldLink RX0 9 "RegaliaVotes$Council" "things" "I", .fieldLink RX0 15 "RegaliaVotes$Council" "officers" "I", .fieldLink RX0 18 "RegaliaVotes$Council" "warmth" "I", .arrayClass .int, .fieldLink RX0 21 "RegaliaVotes$Council" "sort" "[I", .fieldLink RX0 25 "RegaliaVotes$Council" "votes" "[I", .fieldLink RX0 28 "RegaliaVotes$Council" "forBills" "[I", .fieldLink RX0 31 "RegaliaVotes$Council" "firstHolder" "[I"] ++ wsX00)
def wsX0_beginAnew : List Cond := .code yX0_beginAnew cX0_beginAnew 1 none :: ([.fieldLink RX0 9 "RegaliaVotes$Council" "things" "I", .fieldLink RX0 15 "RegaliaVotes$Council" "officers" "I", .fieldLink RX0 18 "RegaliaVotes$Council" "warmth" "I"] ++ wsX00)
def wsX0_addThing : List Cond := .code yX0_addThing cX0_addThing 5 none :: ([.fieldLink RX0 9 "RegaliaVotes$Council" "things" "I", .fieldLink RX0 21 "RegaliaVotes$Council" "sort" "[I", .fieldLink RX0 25 "RegaliaVotes$Council" "votes" "[I", .fieldLink RX0 28 "RegaliaVotes$Council" "forBills" "[I", .fieldLink RX0 31 "RegaliaVotes$Council" "firstHolder" "[I"] ++ wsX00)
def wsX0_copyFrom : List Cond := .code yX0_copyFrom cX0_copyFrom 2 none :: ([.fieldLink RX0 9 "RegaliaVotes$Council" "things" "I", .fieldLink RX0 15 "RegaliaVotes$Council" "officers" "I", .fieldLink RX0 18 "RegaliaVotes$Council" "warmth" "I", .fieldLink RX0 21 "RegaliaVotes$Council" "sort" "[I", .methodLink RX0 34 arraycopyName, .native arraycopyName, .static arraycopyName, .initialized "java/lang/System", .fieldLink RX0 25 "RegaliaVotes$Council" "votes" "[I", .fieldLink RX0 28 "RegaliaVotes$Council" "forBills" "[I", .fieldLink RX0 31 "RegaliaVotes$Council" "firstHolder" "[I"] ++ wsX00)
def wsX1_init : List Cond := .code yX1_init cX1_init 2 none :: ([.methodLink RX1 3 objectInit, .instanceMethod objectInit, .code objectInit ⟨#[0xb1]⟩ 1 none, .arrayClass .int, .fieldLink RX1 9 "RegaliaVotes$Minutes" "bills" "[I", .arrayClass .boolean, .fieldLink RX1 15 "RegaliaVotes$Minutes" "outcomes" "[Z", .fieldLink RX1 19 "RegaliaVotes$Minutes" "lines" "I", .fieldLink RX1 23 "RegaliaVotes$Minutes" "vote" "LRegaliaVotes$Vote;"] ++ wsX10)
def wsX1_write : List Cond := .code yX1_write cX1_write 3 none :: ([.fieldLink RX1 19 "RegaliaVotes$Minutes" "lines" "I", .fieldLink RX1 9 "RegaliaVotes$Minutes" "bills" "[I", .fieldLink RX1 15 "RegaliaVotes$Minutes" "outcomes" "[Z"] ++ wsX10)
def wsX1_tearUp : List Cond := .code yX1_tearUp cX1_tearUp 1 none :: ([.fieldLink RX1 19 "RegaliaVotes$Minutes" "lines" "I"] ++ wsX10)
def wsX7_bit : List Cond := .code yX7_bit cX7_bit 2 (some .int) :: ([])
def wsX6_yesOf : List Cond := .code yX6_yesOf cX6_yesOf 4 (some .int) :: ([.fieldLink RX6 9 "RegaliaVotes$Vote" "told" "LRegaliaVotes$Council;", .fieldLink RX6 19 "RegaliaVotes$Council" "things" "I", .fieldLink RX6 61 "RegaliaVotes$Council" "forBills" "[I", .fieldLink RX6 15 "RegaliaVotes$Vote" "moment" "LRegaliaVotes$Moment;", .fieldLink RX6 64 "RegaliaVotes$Moment" "turned" "I", .static yX7_bit, .initialized RX7, .code yX7_bit cX7_bit 2 (some .int)] ++ wsX60 ++ wsX00 ++ wsX20)
def wsX6_yesIfFor : List Cond := .code yX6_yesIfFor cX6_yesIfFor 5 (some .int) :: ([.fieldLink RX6 15 "RegaliaVotes$Vote" "moment" "LRegaliaVotes$Moment;", .fieldLink RX6 64 "RegaliaVotes$Moment" "turned" "I", .static yX7_bit, .initialized RX7, .code yX7_bit cX7_bit 2 (some .int), .methodLink RX6 67 yX6_yesOf, .instanceMethod yX6_yesOf, .selects RX6 yX6_yesOf yX6_yesOf, .initialized RX6, .code yX6_yesOf cX6_yesOf 4 (some .int), .fieldLink RX6 9 "RegaliaVotes$Vote" "told" "LRegaliaVotes$Council;", .fieldLink RX6 19 "RegaliaVotes$Council" "things" "I", .fieldLink RX6 61 "RegaliaVotes$Council" "forBills" "[I"] ++ wsX60 ++ wsX20 ++ wsX00)
def wsX6_votesOf : List Cond := .code yX6_votesOf cX6_votesOf 4 (some .int) :: ([.fieldLink RX6 9 "RegaliaVotes$Vote" "told" "LRegaliaVotes$Council;", .fieldLink RX6 19 "RegaliaVotes$Council" "things" "I", .fieldLink RX6 58 "RegaliaVotes$Council" "votes" "[I", .static yX7_bit, .initialized RX7, .code yX7_bit cX7_bit 2 (some .int)] ++ wsX60 ++ wsX00)
def wsX6_passesBy : List Cond := .code yX6_passesBy cX6_passesBy 3 (some .boolean) :: ([.methodLink RX6 70 yX6_votesOf, .instanceMethod yX6_votesOf, .selects RX6 yX6_votesOf yX6_votesOf, .initialized RX6, .code yX6_votesOf cX6_votesOf 4 (some .int), .fieldLink RX6 9 "RegaliaVotes$Vote" "told" "LRegaliaVotes$Council;", .fieldLink RX6 19 "RegaliaVotes$Council" "things" "I", .fieldLink RX6 58 "RegaliaVotes$Council" "votes" "[I", .static yX7_bit, .initialized RX7, .code yX7_bit cX7_bit 2 (some .int)] ++ wsX60 ++ wsX00)
def wsX1_isSoIfFor_r1 : List Cond := [Cond.fieldLink RX1 19 "RegaliaVotes$Minutes" "lines" "I", Cond.fieldLink RX1 23 "RegaliaVotes$Minutes" "vote" "LRegaliaVotes$Vote;", Cond.fieldLink RX1 9 "RegaliaVotes$Minutes" "bills" "[I", Cond.fieldLink RX1 15 "RegaliaVotes$Minutes" "outcomes" "[Z", Cond.methodLink RX1 27 yX6_yesIfFor, Cond.instanceMethod yX6_yesIfFor, Cond.selects RX6 yX6_yesIfFor yX6_yesIfFor, Cond.initialized RX6, Cond.code yX6_yesIfFor cX6_yesIfFor 5 (some .int), Cond.fieldLink RX6 15 "RegaliaVotes$Vote" "moment" "LRegaliaVotes$Moment;", Cond.fieldLink RX6 64 "RegaliaVotes$Moment" "turned" "I", Cond.static yX7_bit, Cond.initialized RX7, Cond.code yX7_bit cX7_bit 2 (some .int), Cond.methodLink RX6 67 yX6_yesOf, Cond.instanceMethod yX6_yesOf, Cond.selects RX6 yX6_yesOf yX6_yesOf, Cond.code yX6_yesOf cX6_yesOf 4 (some .int), Cond.fieldLink RX6 9 "RegaliaVotes$Vote" "told" "LRegaliaVotes$Council;", Cond.fieldLink RX6 19 "RegaliaVotes$Council" "things" "I", Cond.fieldLink RX6 61 "RegaliaVotes$Council" "forBills" "[I", Cond.methodLink RX1 33 yX6_passesBy, Cond.instanceMethod yX6_passesBy, Cond.selects RX6 yX6_passesBy yX6_passesBy]
def wsX1_isSoIfFor_r2 : List Cond := [Cond.code yX6_passesBy cX6_passesBy 3 (some .boolean), Cond.methodLink RX6 70 yX6_votesOf, Cond.instanceMethod yX6_votesOf, Cond.selects RX6 yX6_votesOf yX6_votesOf, Cond.code yX6_votesOf cX6_votesOf 4 (some .int), Cond.fieldLink RX6 58 "RegaliaVotes$Council" "votes" "[I"]
def wsX1_isSoIfFor : List Cond := .code yX1_isSoIfFor cX1_isSoIfFor 5 (some .boolean) :: ((wsX1_isSoIfFor_r1 ++ wsX1_isSoIfFor_r2) ++ wsX10 ++ wsX60 ++ wsX20 ++ wsX00)
def wsX6_able : List Cond := .code yX6_able cX6_able 4 (some .int) :: ([.fieldLink RX6 9 "RegaliaVotes$Vote" "told" "LRegaliaVotes$Council;", .fieldLink RX6 19 "RegaliaVotes$Council" "things" "I", .fieldLink RX6 25 "RegaliaVotes$Council" "sort" "[I", .fieldLink RX6 15 "RegaliaVotes$Vote" "moment" "LRegaliaVotes$Moment;", .fieldLink RX6 29 "RegaliaVotes$Moment" "warmth" "[I", .fieldLink RX6 34 "RegaliaVotes$Moment" "wash" "I"] ++ wsX60 ++ wsX00 ++ wsX20)
def wsX6_heldBy : List Cond := .code yX6_heldBy cX6_heldBy 4 (some .int) :: ([.fieldLink RX6 9 "RegaliaVotes$Vote" "told" "LRegaliaVotes$Council;", .fieldLink RX6 19 "RegaliaVotes$Council" "things" "I", .fieldLink RX6 15 "RegaliaVotes$Vote" "moment" "LRegaliaVotes$Moment;", .fieldLink RX6 37 "RegaliaVotes$Moment" "holder" "[I", .static yX7_bit, .initialized RX7, .code yX7_bit cX7_bit 2 (some .int)] ++ wsX60 ++ wsX00 ++ wsX20)
def wsX6_voicesIfSick : List Cond := .code yX6_voicesIfSick cX6_voicesIfSick 2 (some .int) :: ([.methodLink RX6 51 yX6_able, .instanceMethod yX6_able, .selects RX6 yX6_able yX6_able, .initialized RX6, .code yX6_able cX6_able 4 (some .int), .fieldLink RX6 9 "RegaliaVotes$Vote" "told" "LRegaliaVotes$Council;", .fieldLink RX6 19 "RegaliaVotes$Council" "things" "I", .fieldLink RX6 25 "RegaliaVotes$Council" "sort" "[I", .fieldLink RX6 15 "RegaliaVotes$Vote" "moment" "LRegaliaVotes$Moment;", .fieldLink RX6 29 "RegaliaVotes$Moment" "warmth" "[I", .fieldLink RX6 34 "RegaliaVotes$Moment" "wash" "I", .methodLink RX6 55 yX6_heldBy, .instanceMethod yX6_heldBy, .selects RX6 yX6_heldBy yX6_heldBy, .code yX6_heldBy cX6_heldBy 4 (some .int), .fieldLink RX6 37 "RegaliaVotes$Moment" "holder" "[I", .static yX7_bit, .initialized RX7, .code yX7_bit cX7_bit 2 (some .int)] ++ wsX60 ++ wsX00 ++ wsX20)
def wsX1_isSoIfSick_r1 : List Cond := [Cond.fieldLink RX1 23 "RegaliaVotes$Minutes" "vote" "LRegaliaVotes$Vote;", Cond.fieldLink RX1 19 "RegaliaVotes$Minutes" "lines" "I", Cond.fieldLink RX1 9 "RegaliaVotes$Minutes" "bills" "[I", Cond.fieldLink RX1 15 "RegaliaVotes$Minutes" "outcomes" "[Z", Cond.methodLink RX1 37 yX6_voicesIfSick, Cond.instanceMethod yX6_voicesIfSick, Cond.selects RX6 yX6_voicesIfSick yX6_voicesIfSick, Cond.initialized RX6, Cond.code yX6_voicesIfSick cX6_voicesIfSick 2 (some .int), Cond.methodLink RX6 51 yX6_able, Cond.instanceMethod yX6_able, Cond.selects RX6 yX6_able yX6_able, Cond.code yX6_able cX6_able 4 (some .int), Cond.fieldLink RX6 9 "RegaliaVotes$Vote" "told" "LRegaliaVotes$Council;", Cond.fieldLink RX6 19 "RegaliaVotes$Council" "things" "I", Cond.fieldLink RX6 25 "RegaliaVotes$Council" "sort" "[I", Cond.fieldLink RX6 15 "RegaliaVotes$Vote" "moment" "LRegaliaVotes$Moment;", Cond.fieldLink RX6 29 "RegaliaVotes$Moment" "warmth" "[I", Cond.fieldLink RX6 34 "RegaliaVotes$Moment" "wash" "I", Cond.methodLink RX6 55 yX6_heldBy, Cond.instanceMethod yX6_heldBy, Cond.selects RX6 yX6_heldBy yX6_heldBy, Cond.code yX6_heldBy cX6_heldBy 4 (some .int), Cond.fieldLink RX6 37 "RegaliaVotes$Moment" "holder" "[I"]
def wsX1_isSoIfSick_r2 : List Cond := [Cond.static yX7_bit, Cond.initialized RX7, Cond.code yX7_bit cX7_bit 2 (some .int), Cond.methodLink RX1 41 yX6_yesOf, Cond.instanceMethod yX6_yesOf, Cond.selects RX6 yX6_yesOf yX6_yesOf, Cond.code yX6_yesOf cX6_yesOf 4 (some .int), Cond.fieldLink RX6 61 "RegaliaVotes$Council" "forBills" "[I", Cond.fieldLink RX6 64 "RegaliaVotes$Moment" "turned" "I", Cond.methodLink RX1 33 yX6_passesBy, Cond.instanceMethod yX6_passesBy, Cond.selects RX6 yX6_passesBy yX6_passesBy, Cond.code yX6_passesBy cX6_passesBy 3 (some .boolean), Cond.methodLink RX6 70 yX6_votesOf, Cond.instanceMethod yX6_votesOf, Cond.selects RX6 yX6_votesOf yX6_votesOf, Cond.code yX6_votesOf cX6_votesOf 4 (some .int), Cond.fieldLink RX6 58 "RegaliaVotes$Council" "votes" "[I"]
def wsX1_isSoIfSick : List Cond := .code yX1_isSoIfSick cX1_isSoIfSick 4 (some .boolean) :: ((wsX1_isSoIfSick_r1 ++ wsX1_isSoIfSick_r2) ++ wsX10 ++ wsX60 ++ wsX00 ++ wsX20)
def wsX6_voices : List Cond := .code yX6_voices cX6_voices 1 (some .int) :: ([.fieldLink RX6 15 "RegaliaVotes$Vote" "moment" "LRegaliaVotes$Moment;", .fieldLink RX6 44 "RegaliaVotes$Moment" "sick" "I", .methodLink RX6 47 yX6_voicesIfSick, .instanceMethod yX6_voicesIfSick, .selects RX6 yX6_voicesIfSick yX6_voicesIfSick, .initialized RX6, .code yX6_voicesIfSick cX6_voicesIfSick 2 (some .int), .methodLink RX6 51 yX6_able, .instanceMethod yX6_able, .selects RX6 yX6_able yX6_able, .code yX6_able cX6_able 4 (some .int), .fieldLink RX6 9 "RegaliaVotes$Vote" "told" "LRegaliaVotes$Council;", .fieldLink RX6 19 "RegaliaVotes$Council" "things" "I", .fieldLink RX6 25 "RegaliaVotes$Council" "sort" "[I", .fieldLink RX6 29 "RegaliaVotes$Moment" "warmth" "[I", .fieldLink RX6 34 "RegaliaVotes$Moment" "wash" "I", .methodLink RX6 55 yX6_heldBy, .instanceMethod yX6_heldBy, .selects RX6 yX6_heldBy yX6_heldBy, .code yX6_heldBy cX6_heldBy 4 (some .int), .fieldLink RX6 37 "RegaliaVotes$Moment" "holder" "[I", .static yX7_bit, .initialized RX7, .code yX7_bit cX7_bit 2 (some .int)] ++ wsX60 ++ wsX20 ++ wsX00)
def wsX1_possibleSets_r1 : List Cond := [Cond.fieldLink RX1 23 "RegaliaVotes$Minutes" "vote" "LRegaliaVotes$Vote;", Cond.methodLink RX1 44 yX6_voices, Cond.instanceMethod yX6_voices, Cond.selects RX6 yX6_voices yX6_voices, Cond.initialized RX6, Cond.code yX6_voices cX6_voices 1 (some .int), Cond.fieldLink RX6 15 "RegaliaVotes$Vote" "moment" "LRegaliaVotes$Moment;", Cond.fieldLink RX6 44 "RegaliaVotes$Moment" "sick" "I", Cond.methodLink RX6 47 yX6_voicesIfSick, Cond.instanceMethod yX6_voicesIfSick, Cond.selects RX6 yX6_voicesIfSick yX6_voicesIfSick, Cond.code yX6_voicesIfSick cX6_voicesIfSick 2 (some .int), Cond.methodLink RX6 51 yX6_able, Cond.instanceMethod yX6_able, Cond.selects RX6 yX6_able yX6_able, Cond.code yX6_able cX6_able 4 (some .int), Cond.fieldLink RX6 9 "RegaliaVotes$Vote" "told" "LRegaliaVotes$Council;", Cond.fieldLink RX6 19 "RegaliaVotes$Council" "things" "I", Cond.fieldLink RX6 25 "RegaliaVotes$Council" "sort" "[I", Cond.fieldLink RX6 29 "RegaliaVotes$Moment" "warmth" "[I", Cond.fieldLink RX6 34 "RegaliaVotes$Moment" "wash" "I", Cond.methodLink RX6 55 yX6_heldBy, Cond.instanceMethod yX6_heldBy, Cond.selects RX6 yX6_heldBy yX6_heldBy]
def wsX1_possibleSets_r2 : List Cond := [Cond.code yX6_heldBy cX6_heldBy 4 (some .int), Cond.fieldLink RX6 37 "RegaliaVotes$Moment" "holder" "[I", Cond.static yX7_bit, Cond.initialized RX7, Cond.code yX7_bit cX7_bit 2 (some .int), Cond.methodLink RX1 48 yX1_isSoIfFor, Cond.instanceMethod yX1_isSoIfFor, Cond.selects RX1 yX1_isSoIfFor yX1_isSoIfFor, Cond.initialized RX1, Cond.code yX1_isSoIfFor cX1_isSoIfFor 5 (some .boolean), Cond.fieldLink RX1 19 "RegaliaVotes$Minutes" "lines" "I", Cond.fieldLink RX1 9 "RegaliaVotes$Minutes" "bills" "[I", Cond.fieldLink RX1 15 "RegaliaVotes$Minutes" "outcomes" "[Z", Cond.methodLink RX1 27 yX6_yesIfFor, Cond.instanceMethod yX6_yesIfFor, Cond.selects RX6 yX6_yesIfFor yX6_yesIfFor, Cond.code yX6_yesIfFor cX6_yesIfFor 5 (some .int), Cond.fieldLink RX6 64 "RegaliaVotes$Moment" "turned" "I", Cond.methodLink RX6 67 yX6_yesOf, Cond.instanceMethod yX6_yesOf, Cond.selects RX6 yX6_yesOf yX6_yesOf, Cond.code yX6_yesOf cX6_yesOf 4 (some .int), Cond.fieldLink RX6 61 "RegaliaVotes$Council" "forBills" "[I", Cond.methodLink RX1 33 yX6_passesBy]
def wsX1_possibleSets_r3 : List Cond := [Cond.instanceMethod yX6_passesBy, Cond.selects RX6 yX6_passesBy yX6_passesBy, Cond.code yX6_passesBy cX6_passesBy 3 (some .boolean), Cond.methodLink RX6 70 yX6_votesOf, Cond.instanceMethod yX6_votesOf, Cond.selects RX6 yX6_votesOf yX6_votesOf, Cond.code yX6_votesOf cX6_votesOf 4 (some .int), Cond.fieldLink RX6 58 "RegaliaVotes$Council" "votes" "[I"]
def wsX1_possibleSets : List Cond := .code yX1_possibleSets cX1_possibleSets 5 (some .int) :: ((wsX1_possibleSets_r1 ++ (wsX1_possibleSets_r2 ++ wsX1_possibleSets_r3)) ++ wsX10 ++ wsX60 ++ wsX20 ++ wsX00)
def wsX1_leastPossibleSet_r1 : List Cond := [Cond.fieldLink RX1 23 "RegaliaVotes$Minutes" "vote" "LRegaliaVotes$Vote;", Cond.methodLink RX1 44 yX6_voices, Cond.instanceMethod yX6_voices, Cond.selects RX6 yX6_voices yX6_voices, Cond.initialized RX6, Cond.code yX6_voices cX6_voices 1 (some .int), Cond.fieldLink RX6 15 "RegaliaVotes$Vote" "moment" "LRegaliaVotes$Moment;", Cond.fieldLink RX6 44 "RegaliaVotes$Moment" "sick" "I", Cond.methodLink RX6 47 yX6_voicesIfSick, Cond.instanceMethod yX6_voicesIfSick, Cond.selects RX6 yX6_voicesIfSick yX6_voicesIfSick, Cond.code yX6_voicesIfSick cX6_voicesIfSick 2 (some .int), Cond.methodLink RX6 51 yX6_able, Cond.instanceMethod yX6_able, Cond.selects RX6 yX6_able yX6_able, Cond.code yX6_able cX6_able 4 (some .int), Cond.fieldLink RX6 9 "RegaliaVotes$Vote" "told" "LRegaliaVotes$Council;", Cond.fieldLink RX6 19 "RegaliaVotes$Council" "things" "I", Cond.fieldLink RX6 25 "RegaliaVotes$Council" "sort" "[I", Cond.fieldLink RX6 29 "RegaliaVotes$Moment" "warmth" "[I", Cond.fieldLink RX6 34 "RegaliaVotes$Moment" "wash" "I", Cond.methodLink RX6 55 yX6_heldBy, Cond.instanceMethod yX6_heldBy, Cond.selects RX6 yX6_heldBy yX6_heldBy]
def wsX1_leastPossibleSet_r2 : List Cond := [Cond.code yX6_heldBy cX6_heldBy 4 (some .int), Cond.fieldLink RX6 37 "RegaliaVotes$Moment" "holder" "[I", Cond.static yX7_bit, Cond.initialized RX7, Cond.code yX7_bit cX7_bit 2 (some .int), Cond.methodLink RX1 48 yX1_isSoIfFor, Cond.instanceMethod yX1_isSoIfFor, Cond.selects RX1 yX1_isSoIfFor yX1_isSoIfFor, Cond.initialized RX1, Cond.code yX1_isSoIfFor cX1_isSoIfFor 5 (some .boolean), Cond.fieldLink RX1 19 "RegaliaVotes$Minutes" "lines" "I", Cond.fieldLink RX1 9 "RegaliaVotes$Minutes" "bills" "[I", Cond.fieldLink RX1 15 "RegaliaVotes$Minutes" "outcomes" "[Z", Cond.methodLink RX1 27 yX6_yesIfFor, Cond.instanceMethod yX6_yesIfFor, Cond.selects RX6 yX6_yesIfFor yX6_yesIfFor, Cond.code yX6_yesIfFor cX6_yesIfFor 5 (some .int), Cond.fieldLink RX6 64 "RegaliaVotes$Moment" "turned" "I", Cond.methodLink RX6 67 yX6_yesOf, Cond.instanceMethod yX6_yesOf, Cond.selects RX6 yX6_yesOf yX6_yesOf, Cond.code yX6_yesOf cX6_yesOf 4 (some .int), Cond.fieldLink RX6 61 "RegaliaVotes$Council" "forBills" "[I", Cond.methodLink RX1 33 yX6_passesBy]
def wsX1_leastPossibleSet_r3 : List Cond := [Cond.instanceMethod yX6_passesBy, Cond.selects RX6 yX6_passesBy yX6_passesBy, Cond.code yX6_passesBy cX6_passesBy 3 (some .boolean), Cond.methodLink RX6 70 yX6_votesOf, Cond.instanceMethod yX6_votesOf, Cond.selects RX6 yX6_votesOf yX6_votesOf, Cond.code yX6_votesOf cX6_votesOf 4 (some .int), Cond.fieldLink RX6 58 "RegaliaVotes$Council" "votes" "[I"]
def wsX1_leastPossibleSet : List Cond := .code yX1_leastPossibleSet cX1_leastPossibleSet 4 (some .int) :: ((wsX1_leastPossibleSet_r1 ++ (wsX1_leastPossibleSet_r2 ++ wsX1_leastPossibleSet_r3)) ++ wsX10 ++ wsX60 ++ wsX20 ++ wsX00)
def wsX1_possiblySick_r1 : List Cond := [Cond.fieldLink RX1 23 "RegaliaVotes$Minutes" "vote" "LRegaliaVotes$Vote;", Cond.fieldLink RX1 56 "RegaliaVotes$Vote" "told" "LRegaliaVotes$Council;", Cond.fieldLink RX1 60 "RegaliaVotes$Council" "officers" "I", Cond.methodLink RX1 52 yX1_isSoIfSick, Cond.instanceMethod yX1_isSoIfSick, Cond.selects RX1 yX1_isSoIfSick yX1_isSoIfSick, Cond.initialized RX1, Cond.code yX1_isSoIfSick cX1_isSoIfSick 4 (some .boolean), Cond.fieldLink RX1 19 "RegaliaVotes$Minutes" "lines" "I", Cond.fieldLink RX1 9 "RegaliaVotes$Minutes" "bills" "[I", Cond.fieldLink RX1 15 "RegaliaVotes$Minutes" "outcomes" "[Z", Cond.methodLink RX1 37 yX6_voicesIfSick, Cond.instanceMethod yX6_voicesIfSick, Cond.selects RX6 yX6_voicesIfSick yX6_voicesIfSick, Cond.initialized RX6, Cond.code yX6_voicesIfSick cX6_voicesIfSick 2 (some .int), Cond.methodLink RX6 51 yX6_able, Cond.instanceMethod yX6_able, Cond.selects RX6 yX6_able yX6_able, Cond.code yX6_able cX6_able 4 (some .int), Cond.fieldLink RX6 9 "RegaliaVotes$Vote" "told" "LRegaliaVotes$Council;", Cond.fieldLink RX6 19 "RegaliaVotes$Council" "things" "I", Cond.fieldLink RX6 25 "RegaliaVotes$Council" "sort" "[I", Cond.fieldLink RX6 15 "RegaliaVotes$Vote" "moment" "LRegaliaVotes$Moment;"]
def wsX1_possiblySick_r2 : List Cond := [Cond.fieldLink RX6 29 "RegaliaVotes$Moment" "warmth" "[I", Cond.fieldLink RX6 34 "RegaliaVotes$Moment" "wash" "I", Cond.methodLink RX6 55 yX6_heldBy, Cond.instanceMethod yX6_heldBy, Cond.selects RX6 yX6_heldBy yX6_heldBy, Cond.code yX6_heldBy cX6_heldBy 4 (some .int), Cond.fieldLink RX6 37 "RegaliaVotes$Moment" "holder" "[I", Cond.static yX7_bit, Cond.initialized RX7, Cond.code yX7_bit cX7_bit 2 (some .int), Cond.methodLink RX1 41 yX6_yesOf, Cond.instanceMethod yX6_yesOf, Cond.selects RX6 yX6_yesOf yX6_yesOf, Cond.code yX6_yesOf cX6_yesOf 4 (some .int), Cond.fieldLink RX6 61 "RegaliaVotes$Council" "forBills" "[I", Cond.fieldLink RX6 64 "RegaliaVotes$Moment" "turned" "I", Cond.methodLink RX1 33 yX6_passesBy, Cond.instanceMethod yX6_passesBy, Cond.selects RX6 yX6_passesBy yX6_passesBy, Cond.code yX6_passesBy cX6_passesBy 3 (some .boolean), Cond.methodLink RX6 70 yX6_votesOf, Cond.instanceMethod yX6_votesOf, Cond.selects RX6 yX6_votesOf yX6_votesOf, Cond.code yX6_votesOf cX6_votesOf 4 (some .int)]
def wsX1_possiblySick_r3 : List Cond := [Cond.fieldLink RX6 58 "RegaliaVotes$Council" "votes" "[I"]
def wsX1_possiblySick : List Cond := .code yX1_possiblySick cX1_possiblySick 3 (some .int) :: ((wsX1_possiblySick_r1 ++ (wsX1_possiblySick_r2 ++ wsX1_possiblySick_r3)) ++ wsX10 ++ wsX60 ++ wsX00 ++ wsX20)
def wsX2_init : List Cond := .code yX2_init cX2_init 1 none :: ([.methodLink RX2 3 objectInit, .instanceMethod objectInit, .code objectInit ⟨#[0xb1]⟩ 1 none, .arrayClass .int, .fieldLink RX2 9 "RegaliaVotes$Moment" "holder" "[I", .fieldLink RX2 15 "RegaliaVotes$Moment" "warmth" "[I", .fieldLink RX2 18 "RegaliaVotes$Moment" "wash" "I", .fieldLink RX2 22 "RegaliaVotes$Moment" "turned" "I", .fieldLink RX2 25 "RegaliaVotes$Moment" "sick" "I", .fieldLink RX2 28 "RegaliaVotes$Moment" "put" "I", .fieldLink RX2 31 "RegaliaVotes$Moment" "passed" "I"] ++ wsX20)
def wsJ7_fill_53178 : List Cond := .code yJ7_fill_53178 cJ7_fill_53178 4 none :: ([])
def wsX2_beginWith : List Cond := .code yX2_beginWith cX2_beginWith 2 none :: ([.fieldLink RX2 34 "RegaliaVotes$Council" "firstHolder" "[I", .fieldLink RX2 9 "RegaliaVotes$Moment" "holder" "[I", .methodLink RX2 39 arraycopyName, .native arraycopyName, .static arraycopyName, .initialized "java/lang/System", .fieldLink RX2 15 "RegaliaVotes$Moment" "warmth" "[I", .fieldLink RX2 18 "RegaliaVotes$Moment" "wash" "I", .fieldLink RX2 22 "RegaliaVotes$Moment" "turned" "I", .fieldLink RX2 25 "RegaliaVotes$Moment" "sick" "I", .fieldLink RX2 28 "RegaliaVotes$Moment" "put" "I", .fieldLink RX2 31 "RegaliaVotes$Moment" "passed" "I", .methodLink RX2 45 yJ7_fill_53178, .static yJ7_fill_53178, .initialized RJ7, .code yJ7_fill_53178 cJ7_fill_53178 4 none] ++ wsX00 ++ wsX20)
def wsX2_cool : List Cond := .code yX2_cool cX2_cool 2 none :: ([.fieldLink RX2 15 "RegaliaVotes$Moment" "warmth" "[I"] ++ wsX20)
def wsX2_copyFrom : List Cond := .code yX2_copyFrom cX2_copyFrom 2 none :: ([.fieldLink RX2 9 "RegaliaVotes$Moment" "holder" "[I", .methodLink RX2 39 arraycopyName, .native arraycopyName, .static arraycopyName, .initialized "java/lang/System", .fieldLink RX2 15 "RegaliaVotes$Moment" "warmth" "[I", .fieldLink RX2 18 "RegaliaVotes$Moment" "wash" "I", .fieldLink RX2 22 "RegaliaVotes$Moment" "turned" "I", .fieldLink RX2 25 "RegaliaVotes$Moment" "sick" "I", .fieldLink RX2 28 "RegaliaVotes$Moment" "put" "I", .fieldLink RX2 31 "RegaliaVotes$Moment" "passed" "I"] ++ wsX20)
def wsX3_init : List Cond := .code yX3_init cX3_init 2 none :: ([.methodLink RX3 3 objectInit, .instanceMethod objectInit, .code objectInit ⟨#[0xb1]⟩ 1 none, .classLink RX3 9 RX2, .fieldLink RX3 11 "RegaliaVotes$Past" "ring" "[LRegaliaVotes$Moment;", .fieldLink RX3 17 "RegaliaVotes$Past" "next" "I", .fieldLink RX3 21 "RegaliaVotes$Past" "known" "I", .instantiable RX2 7, .initialized RX2, .instanceMethod yX2_init, .code yX2_init cX2_init 1 none, .methodLink RX2 3 objectInit, .arrayClass .int, .fieldLink RX2 9 "RegaliaVotes$Moment" "holder" "[I", .fieldLink RX2 15 "RegaliaVotes$Moment" "warmth" "[I", .fieldLink RX2 18 "RegaliaVotes$Moment" "wash" "I", .fieldLink RX2 22 "RegaliaVotes$Moment" "turned" "I", .fieldLink RX2 25 "RegaliaVotes$Moment" "sick" "I", .fieldLink RX2 28 "RegaliaVotes$Moment" "put" "I", .fieldLink RX2 31 "RegaliaVotes$Moment" "passed" "I"] ++ wsX30 ++ wsX20)
def wsX3_remember : List Cond := .code yX3_remember cX3_remember 2 none :: ([.fieldLink RX3 11 "RegaliaVotes$Past" "ring" "[LRegaliaVotes$Moment;", .fieldLink RX3 17 "RegaliaVotes$Past" "next" "I", .fieldLink RX3 21 "RegaliaVotes$Past" "known" "I", .methodLink RX3 29 Lib.Math.min.name, .static Lib.Math.min.name, .initialized "java/lang/Math", .code Lib.Math.min.name Lib.Math.min.code 2 (some .int), .methodLink RX3 25 yX2_copyFrom, .instanceMethod yX2_copyFrom, .selects RX2 yX2_copyFrom yX2_copyFrom, .initialized RX2, .code yX2_copyFrom cX2_copyFrom 2 none, .fieldLink RX2 9 "RegaliaVotes$Moment" "holder" "[I", .methodLink RX2 39 arraycopyName, .native arraycopyName, .static arraycopyName, .initialized "java/lang/System", .fieldLink RX2 15 "RegaliaVotes$Moment" "warmth" "[I", .fieldLink RX2 18 "RegaliaVotes$Moment" "wash" "I", .fieldLink RX2 22 "RegaliaVotes$Moment" "turned" "I", .fieldLink RX2 25 "RegaliaVotes$Moment" "sick" "I", .fieldLink RX2 28 "RegaliaVotes$Moment" "put" "I", .fieldLink RX2 31 "RegaliaVotes$Moment" "passed" "I"] ++ wsX30 ++ wsX20)
def wsX3_recall : List Cond := .code yX3_recall cX3_recall 2 none :: ([.fieldLink RX3 21 "RegaliaVotes$Past" "known" "I", .fieldLink RX3 17 "RegaliaVotes$Past" "next" "I", .fieldLink RX3 11 "RegaliaVotes$Past" "ring" "[LRegaliaVotes$Moment;", .methodLink RX3 25 yX2_copyFrom, .instanceMethod yX2_copyFrom, .selects RX2 yX2_copyFrom yX2_copyFrom, .initialized RX2, .code yX2_copyFrom cX2_copyFrom 2 none, .fieldLink RX2 9 "RegaliaVotes$Moment" "holder" "[I", .methodLink RX2 39 arraycopyName, .native arraycopyName, .static arraycopyName, .initialized "java/lang/System", .fieldLink RX2 15 "RegaliaVotes$Moment" "warmth" "[I", .fieldLink RX2 18 "RegaliaVotes$Moment" "wash" "I", .fieldLink RX2 22 "RegaliaVotes$Moment" "turned" "I", .fieldLink RX2 25 "RegaliaVotes$Moment" "sick" "I", .fieldLink RX2 28 "RegaliaVotes$Moment" "put" "I", .fieldLink RX2 31 "RegaliaVotes$Moment" "passed" "I"] ++ wsX30 ++ wsX20)
def wsX3_lose : List Cond := .code yX3_lose cX3_lose 1 none :: ([.fieldLink RX3 21 "RegaliaVotes$Past" "known" "I"] ++ wsX30)
def wsX4_init : List Cond := .code yX4_init cX4_init 2 none :: ([.methodLink RX4 3 objectInit, .instanceMethod objectInit, .code objectInit ⟨#[0xb1]⟩ 1 none, .fieldLink RX4 9 "RegaliaVotes$Power" "vote" "LRegaliaVotes$Vote;"] ++ wsX40)
def wsX4_ordersOf : List Cond := .code yX4_ordersOf cX4_ordersOf 1 (some .int) :: ([.fieldLink RX4 15 "RegaliaVotes$Power" "FACTORIAL" "[I"])
def wsX4_carries : List Cond := .code yX4_carries cX4_carries 3 (some .boolean) :: ([.fieldLink RX4 9 "RegaliaVotes$Power" "vote" "LRegaliaVotes$Vote;", .methodLink RX4 19 yX6_votesOf, .instanceMethod yX6_votesOf, .selects RX6 yX6_votesOf yX6_votesOf, .initialized RX6, .code yX6_votesOf cX6_votesOf 4 (some .int), .fieldLink RX6 9 "RegaliaVotes$Vote" "told" "LRegaliaVotes$Council;", .fieldLink RX6 19 "RegaliaVotes$Council" "things" "I", .fieldLink RX6 58 "RegaliaVotes$Council" "votes" "[I", .static yX7_bit, .initialized RX7, .code yX7_bit cX7_bit 2 (some .int)] ++ wsX40 ++ wsX60 ++ wsX00)
def wsJ6_bitCount_0f7a4 : List Cond := .code yJ6_bitCount_0f7a4 cJ6_bitCount_0f7a4 1 (some .int) :: ([.constant RJ6 265 (1431655765), .constant RJ6 266 (858993459), .constant RJ6 267 (252645135)])
def wsX4_orders_r1 : List Cond := [Cond.fieldLink RX4 9 "RegaliaVotes$Power" "vote" "LRegaliaVotes$Vote;", Cond.methodLink RX4 25 yX6_voices, Cond.instanceMethod yX6_voices, Cond.selects RX6 yX6_voices yX6_voices, Cond.initialized RX6, Cond.code yX6_voices cX6_voices 1 (some .int), Cond.fieldLink RX6 15 "RegaliaVotes$Vote" "moment" "LRegaliaVotes$Moment;", Cond.fieldLink RX6 44 "RegaliaVotes$Moment" "sick" "I", Cond.methodLink RX6 47 yX6_voicesIfSick, Cond.instanceMethod yX6_voicesIfSick, Cond.selects RX6 yX6_voicesIfSick yX6_voicesIfSick, Cond.code yX6_voicesIfSick cX6_voicesIfSick 2 (some .int), Cond.methodLink RX6 51 yX6_able, Cond.instanceMethod yX6_able, Cond.selects RX6 yX6_able yX6_able, Cond.code yX6_able cX6_able 4 (some .int), Cond.fieldLink RX6 9 "RegaliaVotes$Vote" "told" "LRegaliaVotes$Council;", Cond.fieldLink RX6 19 "RegaliaVotes$Council" "things" "I", Cond.fieldLink RX6 25 "RegaliaVotes$Council" "sort" "[I", Cond.fieldLink RX6 29 "RegaliaVotes$Moment" "warmth" "[I", Cond.fieldLink RX6 34 "RegaliaVotes$Moment" "wash" "I", Cond.methodLink RX6 55 yX6_heldBy, Cond.instanceMethod yX6_heldBy, Cond.selects RX6 yX6_heldBy yX6_heldBy]
def wsX4_orders_r2 : List Cond := [Cond.code yX6_heldBy cX6_heldBy 4 (some .int), Cond.fieldLink RX6 37 "RegaliaVotes$Moment" "holder" "[I", Cond.static yX7_bit, Cond.initialized RX7, Cond.code yX7_bit cX7_bit 2 (some .int), Cond.methodLink RX4 29 yJ6_bitCount_0f7a4, Cond.static yJ6_bitCount_0f7a4, Cond.initialized RJ6, Cond.code yJ6_bitCount_0f7a4 cJ6_bitCount_0f7a4 1 (some .int), Cond.constant RJ6 265 (1431655765), Cond.constant RJ6 266 (858993459), Cond.constant RJ6 267 (252645135), Cond.methodLink RX4 34 yX4_ordersOf, Cond.static yX4_ordersOf, Cond.initialized RX4, Cond.code yX4_ordersOf cX4_ordersOf 1 (some .int), Cond.fieldLink RX4 15 "RegaliaVotes$Power" "FACTORIAL" "[I"]
def wsX4_orders : List Cond := .code yX4_orders cX4_orders 1 (some .int) :: ((wsX4_orders_r1 ++ wsX4_orders_r2) ++ wsX40 ++ wsX60 ++ wsX20 ++ wsX00)
def wsX7_isWithin : List Cond := .code yX7_isWithin cX7_isWithin 2 (some .boolean) :: ([])
def wsX4_ordersDecided_r1 : List Cond := [Cond.static yX7_isWithin, Cond.initialized RX7, Cond.code yX7_isWithin cX7_isWithin 2 (some .boolean), Cond.methodLink RX4 41 yX4_carries, Cond.instanceMethod yX4_carries, Cond.selects RX4 yX4_carries yX4_carries, Cond.initialized RX4, Cond.code yX4_carries cX4_carries 3 (some .boolean), Cond.fieldLink RX4 9 "RegaliaVotes$Power" "vote" "LRegaliaVotes$Vote;", Cond.methodLink RX4 19 yX6_votesOf, Cond.instanceMethod yX6_votesOf, Cond.selects RX6 yX6_votesOf yX6_votesOf, Cond.initialized RX6, Cond.code yX6_votesOf cX6_votesOf 4 (some .int), Cond.fieldLink RX6 9 "RegaliaVotes$Vote" "told" "LRegaliaVotes$Council;", Cond.fieldLink RX6 19 "RegaliaVotes$Council" "things" "I", Cond.fieldLink RX6 58 "RegaliaVotes$Council" "votes" "[I", Cond.static yX7_bit, Cond.code yX7_bit cX7_bit 2 (some .int), Cond.methodLink RX4 29 yJ6_bitCount_0f7a4, Cond.static yJ6_bitCount_0f7a4, Cond.initialized RJ6, Cond.code yJ6_bitCount_0f7a4 cJ6_bitCount_0f7a4 1 (some .int), Cond.constant RJ6 265 (1431655765)]
def wsX4_ordersDecided_r2 : List Cond := [Cond.constant RJ6 266 (858993459), Cond.constant RJ6 267 (252645135), Cond.methodLink RX4 34 yX4_ordersOf, Cond.static yX4_ordersOf, Cond.code yX4_ordersOf cX4_ordersOf 1 (some .int), Cond.fieldLink RX4 15 "RegaliaVotes$Power" "FACTORIAL" "[I"]
def wsX4_ordersDecided : List Cond := .code yX4_ordersDecided cX4_ordersDecided 7 (some .int) :: ((wsX4_ordersDecided_r1 ++ wsX4_ordersDecided_r2) ++ wsX40 ++ wsX60 ++ wsX00)
def wsX4_powerless_r1 : List Cond := [Cond.fieldLink RX4 9 "RegaliaVotes$Power" "vote" "LRegaliaVotes$Vote;", Cond.methodLink RX4 25 yX6_voices, Cond.instanceMethod yX6_voices, Cond.selects RX6 yX6_voices yX6_voices, Cond.initialized RX6, Cond.code yX6_voices cX6_voices 1 (some .int), Cond.fieldLink RX6 15 "RegaliaVotes$Vote" "moment" "LRegaliaVotes$Moment;", Cond.fieldLink RX6 44 "RegaliaVotes$Moment" "sick" "I", Cond.methodLink RX6 47 yX6_voicesIfSick, Cond.instanceMethod yX6_voicesIfSick, Cond.selects RX6 yX6_voicesIfSick yX6_voicesIfSick, Cond.code yX6_voicesIfSick cX6_voicesIfSick 2 (some .int), Cond.methodLink RX6 51 yX6_able, Cond.instanceMethod yX6_able, Cond.selects RX6 yX6_able yX6_able, Cond.code yX6_able cX6_able 4 (some .int), Cond.fieldLink RX6 9 "RegaliaVotes$Vote" "told" "LRegaliaVotes$Council;", Cond.fieldLink RX6 19 "RegaliaVotes$Council" "things" "I", Cond.fieldLink RX6 25 "RegaliaVotes$Council" "sort" "[I", Cond.fieldLink RX6 29 "RegaliaVotes$Moment" "warmth" "[I", Cond.fieldLink RX6 34 "RegaliaVotes$Moment" "wash" "I", Cond.methodLink RX6 55 yX6_heldBy, Cond.instanceMethod yX6_heldBy, Cond.selects RX6 yX6_heldBy yX6_heldBy]
def wsX4_powerless_r2 : List Cond := [Cond.code yX6_heldBy cX6_heldBy 4 (some .int), Cond.fieldLink RX6 37 "RegaliaVotes$Moment" "holder" "[I", Cond.static yX7_bit, Cond.initialized RX7, Cond.code yX7_bit cX7_bit 2 (some .int), Cond.methodLink RX4 48 yX4_ordersDecided, Cond.instanceMethod yX4_ordersDecided, Cond.selects RX4 yX4_ordersDecided yX4_ordersDecided, Cond.initialized RX4, Cond.code yX4_ordersDecided cX4_ordersDecided 7 (some .int), Cond.static yX7_isWithin, Cond.code yX7_isWithin cX7_isWithin 2 (some .boolean), Cond.methodLink RX4 41 yX4_carries, Cond.instanceMethod yX4_carries, Cond.selects RX4 yX4_carries yX4_carries, Cond.code yX4_carries cX4_carries 3 (some .boolean), Cond.methodLink RX4 19 yX6_votesOf, Cond.instanceMethod yX6_votesOf, Cond.selects RX6 yX6_votesOf yX6_votesOf, Cond.code yX6_votesOf cX6_votesOf 4 (some .int), Cond.fieldLink RX6 58 "RegaliaVotes$Council" "votes" "[I", Cond.methodLink RX4 29 yJ6_bitCount_0f7a4, Cond.static yJ6_bitCount_0f7a4, Cond.initialized RJ6]
def wsX4_powerless_r3 : List Cond := [Cond.code yJ6_bitCount_0f7a4 cJ6_bitCount_0f7a4 1 (some .int), Cond.constant RJ6 265 (1431655765), Cond.constant RJ6 266 (858993459), Cond.constant RJ6 267 (252645135), Cond.methodLink RX4 34 yX4_ordersOf, Cond.static yX4_ordersOf, Cond.code yX4_ordersOf cX4_ordersOf 1 (some .int), Cond.fieldLink RX4 15 "RegaliaVotes$Power" "FACTORIAL" "[I"]
def wsX4_powerless : List Cond := .code yX4_powerless cX4_powerless 4 (some .int) :: ((wsX4_powerless_r1 ++ (wsX4_powerless_r2 ++ wsX4_powerless_r3)) ++ wsX40 ++ wsX60 ++ wsX20 ++ wsX00)
def wsX4_isLeast : List Cond := .code yX4_isLeast cX4_isLeast 4 (some .boolean) :: ([.static yX7_isWithin, .initialized RX7, .code yX7_isWithin cX7_isWithin 2 (some .boolean), .methodLink RX4 41 yX4_carries, .instanceMethod yX4_carries, .selects RX4 yX4_carries yX4_carries, .initialized RX4, .code yX4_carries cX4_carries 3 (some .boolean), .fieldLink RX4 9 "RegaliaVotes$Power" "vote" "LRegaliaVotes$Vote;", .methodLink RX4 19 yX6_votesOf, .instanceMethod yX6_votesOf, .selects RX6 yX6_votesOf yX6_votesOf, .initialized RX6, .code yX6_votesOf cX6_votesOf 4 (some .int), .fieldLink RX6 9 "RegaliaVotes$Vote" "told" "LRegaliaVotes$Council;", .fieldLink RX6 19 "RegaliaVotes$Council" "things" "I", .fieldLink RX6 58 "RegaliaVotes$Council" "votes" "[I", .static yX7_bit, .code yX7_bit cX7_bit 2 (some .int)] ++ wsX40 ++ wsX60 ++ wsX00)
def wsX4_leastSets_r1 : List Cond := [Cond.fieldLink RX4 9 "RegaliaVotes$Power" "vote" "LRegaliaVotes$Vote;", Cond.methodLink RX4 25 yX6_voices, Cond.instanceMethod yX6_voices, Cond.selects RX6 yX6_voices yX6_voices, Cond.initialized RX6, Cond.code yX6_voices cX6_voices 1 (some .int), Cond.fieldLink RX6 15 "RegaliaVotes$Vote" "moment" "LRegaliaVotes$Moment;", Cond.fieldLink RX6 44 "RegaliaVotes$Moment" "sick" "I", Cond.methodLink RX6 47 yX6_voicesIfSick, Cond.instanceMethod yX6_voicesIfSick, Cond.selects RX6 yX6_voicesIfSick yX6_voicesIfSick, Cond.code yX6_voicesIfSick cX6_voicesIfSick 2 (some .int), Cond.methodLink RX6 51 yX6_able, Cond.instanceMethod yX6_able, Cond.selects RX6 yX6_able yX6_able, Cond.code yX6_able cX6_able 4 (some .int), Cond.fieldLink RX6 9 "RegaliaVotes$Vote" "told" "LRegaliaVotes$Council;", Cond.fieldLink RX6 19 "RegaliaVotes$Council" "things" "I", Cond.fieldLink RX6 25 "RegaliaVotes$Council" "sort" "[I", Cond.fieldLink RX6 29 "RegaliaVotes$Moment" "warmth" "[I", Cond.fieldLink RX6 34 "RegaliaVotes$Moment" "wash" "I", Cond.methodLink RX6 55 yX6_heldBy, Cond.instanceMethod yX6_heldBy, Cond.selects RX6 yX6_heldBy yX6_heldBy]
def wsX4_leastSets_r2 : List Cond := [Cond.code yX6_heldBy cX6_heldBy 4 (some .int), Cond.fieldLink RX6 37 "RegaliaVotes$Moment" "holder" "[I", Cond.static yX7_bit, Cond.initialized RX7, Cond.code yX7_bit cX7_bit 2 (some .int), Cond.methodLink RX4 51 yX4_isLeast, Cond.instanceMethod yX4_isLeast, Cond.selects RX4 yX4_isLeast yX4_isLeast, Cond.initialized RX4, Cond.code yX4_isLeast cX4_isLeast 4 (some .boolean), Cond.static yX7_isWithin, Cond.code yX7_isWithin cX7_isWithin 2 (some .boolean), Cond.methodLink RX4 41 yX4_carries, Cond.instanceMethod yX4_carries, Cond.selects RX4 yX4_carries yX4_carries, Cond.code yX4_carries cX4_carries 3 (some .boolean), Cond.methodLink RX4 19 yX6_votesOf, Cond.instanceMethod yX6_votesOf, Cond.selects RX6 yX6_votesOf yX6_votesOf, Cond.code yX6_votesOf cX6_votesOf 4 (some .int), Cond.fieldLink RX6 58 "RegaliaVotes$Council" "votes" "[I"]
def wsX4_leastSets : List Cond := .code yX4_leastSets cX4_leastSets 4 (some .int) :: ((wsX4_leastSets_r1 ++ wsX4_leastSets_r2) ++ wsX40 ++ wsX60 ++ wsX20 ++ wsX00)
def wsX4_firstLeastSet_r1 : List Cond := [Cond.fieldLink RX4 9 "RegaliaVotes$Power" "vote" "LRegaliaVotes$Vote;", Cond.methodLink RX4 25 yX6_voices, Cond.instanceMethod yX6_voices, Cond.selects RX6 yX6_voices yX6_voices, Cond.initialized RX6, Cond.code yX6_voices cX6_voices 1 (some .int), Cond.fieldLink RX6 15 "RegaliaVotes$Vote" "moment" "LRegaliaVotes$Moment;", Cond.fieldLink RX6 44 "RegaliaVotes$Moment" "sick" "I", Cond.methodLink RX6 47 yX6_voicesIfSick, Cond.instanceMethod yX6_voicesIfSick, Cond.selects RX6 yX6_voicesIfSick yX6_voicesIfSick, Cond.code yX6_voicesIfSick cX6_voicesIfSick 2 (some .int), Cond.methodLink RX6 51 yX6_able, Cond.instanceMethod yX6_able, Cond.selects RX6 yX6_able yX6_able, Cond.code yX6_able cX6_able 4 (some .int), Cond.fieldLink RX6 9 "RegaliaVotes$Vote" "told" "LRegaliaVotes$Council;", Cond.fieldLink RX6 19 "RegaliaVotes$Council" "things" "I", Cond.fieldLink RX6 25 "RegaliaVotes$Council" "sort" "[I", Cond.fieldLink RX6 29 "RegaliaVotes$Moment" "warmth" "[I", Cond.fieldLink RX6 34 "RegaliaVotes$Moment" "wash" "I", Cond.methodLink RX6 55 yX6_heldBy, Cond.instanceMethod yX6_heldBy, Cond.selects RX6 yX6_heldBy yX6_heldBy]
def wsX4_firstLeastSet_r2 : List Cond := [Cond.code yX6_heldBy cX6_heldBy 4 (some .int), Cond.fieldLink RX6 37 "RegaliaVotes$Moment" "holder" "[I", Cond.static yX7_bit, Cond.initialized RX7, Cond.code yX7_bit cX7_bit 2 (some .int), Cond.methodLink RX4 51 yX4_isLeast, Cond.instanceMethod yX4_isLeast, Cond.selects RX4 yX4_isLeast yX4_isLeast, Cond.initialized RX4, Cond.code yX4_isLeast cX4_isLeast 4 (some .boolean), Cond.static yX7_isWithin, Cond.code yX7_isWithin cX7_isWithin 2 (some .boolean), Cond.methodLink RX4 41 yX4_carries, Cond.instanceMethod yX4_carries, Cond.selects RX4 yX4_carries yX4_carries, Cond.code yX4_carries cX4_carries 3 (some .boolean), Cond.methodLink RX4 19 yX6_votesOf, Cond.instanceMethod yX6_votesOf, Cond.selects RX6 yX6_votesOf yX6_votesOf, Cond.code yX6_votesOf cX6_votesOf 4 (some .int), Cond.fieldLink RX6 58 "RegaliaVotes$Council" "votes" "[I"]
def wsX4_firstLeastSet : List Cond := .code yX4_firstLeastSet cX4_firstLeastSet 3 (some .int) :: ((wsX4_firstLeastSet_r1 ++ wsX4_firstLeastSet_r2) ++ wsX40 ++ wsX60 ++ wsX20 ++ wsX00)
def wsX5_init : List Cond := .code yX5_init cX5_init 3 none :: ([.methodLink RX5 3 objectInit, .instanceMethod objectInit, .code objectInit ⟨#[0xb1]⟩ 1 none, .fieldLink RX5 9 "RegaliaVotes$Reader" "length" "I", .fieldLink RX5 15 "RegaliaVotes$Reader" "place" "I", .fieldLink RX5 18 "RegaliaVotes$Reader" "token" "I", .fieldLink RX5 21 "RegaliaVotes$Reader" "tokenPlace" "I", .fieldLink RX5 24 "RegaliaVotes$Reader" "number" "I", .fieldLink RX5 27 "RegaliaVotes$Reader" "fault" "I", .fieldLink RX5 30 "RegaliaVotes$Reader" "warmthTold" "Z", .fieldLink RX5 34 "RegaliaVotes$Reader" "text" "[C", .fieldLink RX5 38 "RegaliaVotes$Reader" "draft" "LRegaliaVotes$Council;"] ++ wsX50)
def wsX5_isDigit : List Cond := .code yX5_isDigit cX5_isDigit 1 (some .boolean) :: ([])
def wsX5_takeDigits : List Cond := .code yX5_takeDigits cX5_takeDigits 3 none :: ([.fieldLink RX5 34 "RegaliaVotes$Reader" "text" "[C", .fieldLink RX5 15 "RegaliaVotes$Reader" "place" "I", .fieldLink RX5 24 "RegaliaVotes$Reader" "number" "I", .fieldLink RX5 9 "RegaliaVotes$Reader" "length" "I", .methodLink RX5 64 Lib.Math.min.name, .static Lib.Math.min.name, .initialized "java/lang/Math", .code Lib.Math.min.name Lib.Math.min.code 2 (some .int), .fieldLink RX5 21 "RegaliaVotes$Reader" "tokenPlace" "I", .fieldLink RX5 18 "RegaliaVotes$Reader" "token" "I", .methodLink RX5 91 yX5_isDigit, .static yX5_isDigit, .initialized RX5, .code yX5_isDigit cX5_isDigit 1 (some .boolean)] ++ wsX50)
def wsX5_nextToken : List Cond := .code yX5_nextToken cX5_nextToken 1 none :: ([.fieldLink RX5 15 "RegaliaVotes$Reader" "place" "I", .fieldLink RX5 9 "RegaliaVotes$Reader" "length" "I", .fieldLink RX5 34 "RegaliaVotes$Reader" "text" "[C", .fieldLink RX5 21 "RegaliaVotes$Reader" "tokenPlace" "I", .fieldLink RX5 18 "RegaliaVotes$Reader" "token" "I", .methodLink RX5 91 yX5_isDigit, .static yX5_isDigit, .initialized RX5, .code yX5_isDigit cX5_isDigit 1 (some .boolean), .methodLink RX5 95 yX5_takeDigits, .instanceMethod yX5_takeDigits, .selects RX5 yX5_takeDigits yX5_takeDigits, .code yX5_takeDigits cX5_takeDigits 3 none, .fieldLink RX5 24 "RegaliaVotes$Reader" "number" "I", .methodLink RX5 64 Lib.Math.min.name, .static Lib.Math.min.name, .initialized "java/lang/Math", .code Lib.Math.min.name Lib.Math.min.code 2 (some .int)] ++ wsX50)
def wsX5_begin_r1 : List Cond := [Cond.fieldLink RX5 34 "RegaliaVotes$Reader" "text" "[C", Cond.methodLink RX5 64 Lib.Math.min.name, Cond.static Lib.Math.min.name, Cond.initialized "java/lang/Math", Cond.code Lib.Math.min.name Lib.Math.min.code 2 (some .int), Cond.fieldLink RX5 9 "RegaliaVotes$Reader" "length" "I", Cond.fieldLink RX5 15 "RegaliaVotes$Reader" "place" "I", Cond.fieldLink RX5 27 "RegaliaVotes$Reader" "fault" "I", Cond.fieldLink RX5 30 "RegaliaVotes$Reader" "warmthTold" "Z", Cond.fieldLink RX5 38 "RegaliaVotes$Reader" "draft" "LRegaliaVotes$Council;", Cond.methodLink RX5 70 yX0_beginAnew, Cond.instanceMethod yX0_beginAnew, Cond.selects RX0 yX0_beginAnew yX0_beginAnew, Cond.initialized RX0, Cond.code yX0_beginAnew cX0_beginAnew 1 none, Cond.fieldLink RX0 9 "RegaliaVotes$Council" "things" "I", Cond.fieldLink RX0 15 "RegaliaVotes$Council" "officers" "I", Cond.fieldLink RX0 18 "RegaliaVotes$Council" "warmth" "I", Cond.methodLink RX5 61 yX5_nextToken, Cond.instanceMethod yX5_nextToken, Cond.selects RX5 yX5_nextToken yX5_nextToken, Cond.initialized RX5, Cond.code yX5_nextToken cX5_nextToken 1 none, Cond.fieldLink RX5 21 "RegaliaVotes$Reader" "tokenPlace" "I"]
def wsX5_begin_r2 : List Cond := [Cond.fieldLink RX5 18 "RegaliaVotes$Reader" "token" "I", Cond.methodLink RX5 91 yX5_isDigit, Cond.static yX5_isDigit, Cond.code yX5_isDigit cX5_isDigit 1 (some .boolean), Cond.methodLink RX5 95 yX5_takeDigits, Cond.instanceMethod yX5_takeDigits, Cond.selects RX5 yX5_takeDigits yX5_takeDigits, Cond.code yX5_takeDigits cX5_takeDigits 3 none, Cond.fieldLink RX5 24 "RegaliaVotes$Reader" "number" "I"]
def wsX5_begin : List Cond := .code yX5_begin cX5_begin 2 none :: ((wsX5_begin_r1 ++ wsX5_begin_r2) ++ wsX50 ++ wsX00)
def wsX5_markFault : List Cond := .code yX5_markFault cX5_markFault 1 none :: ([.fieldLink RX5 27 "RegaliaVotes$Reader" "fault" "I", .fieldLink RX5 21 "RegaliaVotes$Reader" "tokenPlace" "I"] ++ wsX50)
def wsX5_readNumber_r1 : List Cond := [Cond.fieldLink RX5 18 "RegaliaVotes$Reader" "token" "I", Cond.fieldLink RX5 24 "RegaliaVotes$Reader" "number" "I", Cond.methodLink RX5 61 yX5_nextToken, Cond.instanceMethod yX5_nextToken, Cond.selects RX5 yX5_nextToken yX5_nextToken, Cond.initialized RX5, Cond.code yX5_nextToken cX5_nextToken 1 none, Cond.fieldLink RX5 15 "RegaliaVotes$Reader" "place" "I", Cond.fieldLink RX5 9 "RegaliaVotes$Reader" "length" "I", Cond.fieldLink RX5 34 "RegaliaVotes$Reader" "text" "[C", Cond.fieldLink RX5 21 "RegaliaVotes$Reader" "tokenPlace" "I", Cond.methodLink RX5 91 yX5_isDigit, Cond.static yX5_isDigit, Cond.code yX5_isDigit cX5_isDigit 1 (some .boolean), Cond.methodLink RX5 95 yX5_takeDigits, Cond.instanceMethod yX5_takeDigits, Cond.selects RX5 yX5_takeDigits yX5_takeDigits, Cond.code yX5_takeDigits cX5_takeDigits 3 none, Cond.methodLink RX5 64 Lib.Math.min.name, Cond.static Lib.Math.min.name, Cond.initialized "java/lang/Math", Cond.code Lib.Math.min.name Lib.Math.min.code 2 (some .int), Cond.methodLink RX5 55 yX5_markFault, Cond.instanceMethod yX5_markFault]
def wsX5_readNumber_r2 : List Cond := [Cond.selects RX5 yX5_markFault yX5_markFault, Cond.code yX5_markFault cX5_markFault 1 none, Cond.fieldLink RX5 27 "RegaliaVotes$Reader" "fault" "I"]
def wsX5_readNumber : List Cond := .code yX5_readNumber cX5_readNumber 3 (some .int) :: ((wsX5_readNumber_r1 ++ wsX5_readNumber_r2) ++ wsX50)
def wsX5_readOfficers_r1 : List Cond := [Cond.fieldLink RX5 38 "RegaliaVotes$Reader" "draft" "LRegaliaVotes$Council;", Cond.fieldLink RX5 78 "RegaliaVotes$Council" "officers" "I", Cond.methodLink RX5 55 yX5_markFault, Cond.instanceMethod yX5_markFault, Cond.selects RX5 yX5_markFault yX5_markFault, Cond.initialized RX5, Cond.code yX5_markFault cX5_markFault 1 none, Cond.fieldLink RX5 27 "RegaliaVotes$Reader" "fault" "I", Cond.fieldLink RX5 21 "RegaliaVotes$Reader" "tokenPlace" "I", Cond.methodLink RX5 75 yX5_readNumber, Cond.instanceMethod yX5_readNumber, Cond.selects RX5 yX5_readNumber yX5_readNumber, Cond.code yX5_readNumber cX5_readNumber 3 (some .int), Cond.fieldLink RX5 18 "RegaliaVotes$Reader" "token" "I", Cond.fieldLink RX5 24 "RegaliaVotes$Reader" "number" "I", Cond.methodLink RX5 61 yX5_nextToken, Cond.instanceMethod yX5_nextToken, Cond.selects RX5 yX5_nextToken yX5_nextToken, Cond.code yX5_nextToken cX5_nextToken 1 none, Cond.fieldLink RX5 15 "RegaliaVotes$Reader" "place" "I", Cond.fieldLink RX5 9 "RegaliaVotes$Reader" "length" "I", Cond.fieldLink RX5 34 "RegaliaVotes$Reader" "text" "[C", Cond.methodLink RX5 91 yX5_isDigit, Cond.static yX5_isDigit]
def wsX5_readOfficers_r2 : List Cond := [Cond.code yX5_isDigit cX5_isDigit 1 (some .boolean), Cond.methodLink RX5 95 yX5_takeDigits, Cond.instanceMethod yX5_takeDigits, Cond.selects RX5 yX5_takeDigits yX5_takeDigits, Cond.code yX5_takeDigits cX5_takeDigits 3 none, Cond.methodLink RX5 64 Lib.Math.min.name, Cond.static Lib.Math.min.name, Cond.initialized "java/lang/Math", Cond.code Lib.Math.min.name Lib.Math.min.code 2 (some .int)]
def wsX5_readOfficers : List Cond := .code yX5_readOfficers cX5_readOfficers 2 none :: ((wsX5_readOfficers_r1 ++ wsX5_readOfficers_r2) ++ wsX50 ++ wsX00)
def wsX5_readThing_r1 : List Cond := [Cond.fieldLink RX5 38 "RegaliaVotes$Reader" "draft" "LRegaliaVotes$Council;", Cond.fieldLink RX5 81 "RegaliaVotes$Council" "things" "I", Cond.fieldLink RX5 78 "RegaliaVotes$Council" "officers" "I", Cond.methodLink RX5 55 yX5_markFault, Cond.instanceMethod yX5_markFault, Cond.selects RX5 yX5_markFault yX5_markFault, Cond.initialized RX5, Cond.code yX5_markFault cX5_markFault 1 none, Cond.fieldLink RX5 27 "RegaliaVotes$Reader" "fault" "I", Cond.fieldLink RX5 21 "RegaliaVotes$Reader" "tokenPlace" "I", Cond.methodLink RX5 75 yX5_readNumber, Cond.instanceMethod yX5_readNumber, Cond.selects RX5 yX5_readNumber yX5_readNumber, Cond.code yX5_readNumber cX5_readNumber 3 (some .int), Cond.fieldLink RX5 18 "RegaliaVotes$Reader" "token" "I", Cond.fieldLink RX5 24 "RegaliaVotes$Reader" "number" "I", Cond.methodLink RX5 61 yX5_nextToken, Cond.instanceMethod yX5_nextToken, Cond.selects RX5 yX5_nextToken yX5_nextToken, Cond.code yX5_nextToken cX5_nextToken 1 none, Cond.fieldLink RX5 15 "RegaliaVotes$Reader" "place" "I", Cond.fieldLink RX5 9 "RegaliaVotes$Reader" "length" "I", Cond.fieldLink RX5 34 "RegaliaVotes$Reader" "text" "[C", Cond.methodLink RX5 91 yX5_isDigit]
def wsX5_readThing_r2 : List Cond := [Cond.static yX5_isDigit, Cond.code yX5_isDigit cX5_isDigit 1 (some .boolean), Cond.methodLink RX5 95 yX5_takeDigits, Cond.instanceMethod yX5_takeDigits, Cond.selects RX5 yX5_takeDigits yX5_takeDigits, Cond.code yX5_takeDigits cX5_takeDigits 3 none, Cond.methodLink RX5 64 Lib.Math.min.name, Cond.static Lib.Math.min.name, Cond.initialized "java/lang/Math", Cond.code Lib.Math.min.name Lib.Math.min.code 2 (some .int), Cond.methodLink RX5 84 yX0_addThing, Cond.instanceMethod yX0_addThing, Cond.selects RX0 yX0_addThing yX0_addThing, Cond.initialized RX0, Cond.code yX0_addThing cX0_addThing 5 none, Cond.fieldLink RX0 9 "RegaliaVotes$Council" "things" "I", Cond.fieldLink RX0 21 "RegaliaVotes$Council" "sort" "[I", Cond.fieldLink RX0 25 "RegaliaVotes$Council" "votes" "[I", Cond.fieldLink RX0 28 "RegaliaVotes$Council" "forBills" "[I", Cond.fieldLink RX0 31 "RegaliaVotes$Council" "firstHolder" "[I"]
def wsX5_readThing : List Cond := .code yX5_readThing cX5_readThing 5 none :: ((wsX5_readThing_r1 ++ wsX5_readThing_r2) ++ wsX50 ++ wsX00)
def wsX5_readWarmth_r1 : List Cond := [Cond.fieldLink RX5 30 "RegaliaVotes$Reader" "warmthTold" "Z", Cond.fieldLink RX5 38 "RegaliaVotes$Reader" "draft" "LRegaliaVotes$Council;", Cond.fieldLink RX5 88 "RegaliaVotes$Council" "warmth" "I", Cond.methodLink RX5 55 yX5_markFault, Cond.instanceMethod yX5_markFault, Cond.selects RX5 yX5_markFault yX5_markFault, Cond.initialized RX5, Cond.code yX5_markFault cX5_markFault 1 none, Cond.fieldLink RX5 27 "RegaliaVotes$Reader" "fault" "I", Cond.fieldLink RX5 21 "RegaliaVotes$Reader" "tokenPlace" "I", Cond.methodLink RX5 75 yX5_readNumber, Cond.instanceMethod yX5_readNumber, Cond.selects RX5 yX5_readNumber yX5_readNumber, Cond.code yX5_readNumber cX5_readNumber 3 (some .int), Cond.fieldLink RX5 18 "RegaliaVotes$Reader" "token" "I", Cond.fieldLink RX5 24 "RegaliaVotes$Reader" "number" "I", Cond.methodLink RX5 61 yX5_nextToken, Cond.instanceMethod yX5_nextToken, Cond.selects RX5 yX5_nextToken yX5_nextToken, Cond.code yX5_nextToken cX5_nextToken 1 none, Cond.fieldLink RX5 15 "RegaliaVotes$Reader" "place" "I", Cond.fieldLink RX5 9 "RegaliaVotes$Reader" "length" "I", Cond.fieldLink RX5 34 "RegaliaVotes$Reader" "text" "[C", Cond.methodLink RX5 91 yX5_isDigit]
def wsX5_readWarmth_r2 : List Cond := [Cond.static yX5_isDigit, Cond.code yX5_isDigit cX5_isDigit 1 (some .boolean), Cond.methodLink RX5 95 yX5_takeDigits, Cond.instanceMethod yX5_takeDigits, Cond.selects RX5 yX5_takeDigits yX5_takeDigits, Cond.code yX5_takeDigits cX5_takeDigits 3 none, Cond.methodLink RX5 64 Lib.Math.min.name, Cond.static Lib.Math.min.name, Cond.initialized "java/lang/Math", Cond.code Lib.Math.min.name Lib.Math.min.code 2 (some .int)]
def wsX5_readWarmth : List Cond := .code yX5_readWarmth cX5_readWarmth 1 none :: ((wsX5_readWarmth_r1 ++ wsX5_readWarmth_r2) ++ wsX50 ++ wsX00)
def wsX5_readItemEnd_r1 : List Cond := [Cond.fieldLink RX5 18 "RegaliaVotes$Reader" "token" "I", Cond.methodLink RX5 61 yX5_nextToken, Cond.instanceMethod yX5_nextToken, Cond.selects RX5 yX5_nextToken yX5_nextToken, Cond.initialized RX5, Cond.code yX5_nextToken cX5_nextToken 1 none, Cond.fieldLink RX5 15 "RegaliaVotes$Reader" "place" "I", Cond.fieldLink RX5 9 "RegaliaVotes$Reader" "length" "I", Cond.fieldLink RX5 34 "RegaliaVotes$Reader" "text" "[C", Cond.fieldLink RX5 21 "RegaliaVotes$Reader" "tokenPlace" "I", Cond.methodLink RX5 91 yX5_isDigit, Cond.static yX5_isDigit, Cond.code yX5_isDigit cX5_isDigit 1 (some .boolean), Cond.methodLink RX5 95 yX5_takeDigits, Cond.instanceMethod yX5_takeDigits, Cond.selects RX5 yX5_takeDigits yX5_takeDigits, Cond.code yX5_takeDigits cX5_takeDigits 3 none, Cond.fieldLink RX5 24 "RegaliaVotes$Reader" "number" "I", Cond.methodLink RX5 64 Lib.Math.min.name, Cond.static Lib.Math.min.name, Cond.initialized "java/lang/Math", Cond.code Lib.Math.min.name Lib.Math.min.code 2 (some .int), Cond.methodLink RX5 55 yX5_markFault, Cond.instanceMethod yX5_markFault]
def wsX5_readItemEnd_r2 : List Cond := [Cond.selects RX5 yX5_markFault yX5_markFault, Cond.code yX5_markFault cX5_markFault 1 none, Cond.fieldLink RX5 27 "RegaliaVotes$Reader" "fault" "I"]
def wsX5_readItemEnd : List Cond := .code yX5_readItemEnd cX5_readItemEnd 1 none :: ((wsX5_readItemEnd_r1 ++ wsX5_readItemEnd_r2) ++ wsX50)
def wsX5_readText_r1 : List Cond := [Cond.fieldLink RX5 18 "RegaliaVotes$Reader" "token" "I", Cond.fieldLink RX5 27 "RegaliaVotes$Reader" "fault" "I", Cond.methodLink RX5 42 yX5_begin, Cond.instanceMethod yX5_begin, Cond.selects RX5 yX5_begin yX5_begin, Cond.initialized RX5, Cond.code yX5_begin cX5_begin 2 none, Cond.fieldLink RX5 34 "RegaliaVotes$Reader" "text" "[C", Cond.methodLink RX5 64 Lib.Math.min.name, Cond.static Lib.Math.min.name, Cond.initialized "java/lang/Math", Cond.code Lib.Math.min.name Lib.Math.min.code 2 (some .int), Cond.fieldLink RX5 9 "RegaliaVotes$Reader" "length" "I", Cond.fieldLink RX5 15 "RegaliaVotes$Reader" "place" "I", Cond.fieldLink RX5 30 "RegaliaVotes$Reader" "warmthTold" "Z", Cond.fieldLink RX5 38 "RegaliaVotes$Reader" "draft" "LRegaliaVotes$Council;", Cond.methodLink RX5 70 yX0_beginAnew, Cond.instanceMethod yX0_beginAnew, Cond.selects RX0 yX0_beginAnew yX0_beginAnew, Cond.initialized RX0, Cond.code yX0_beginAnew cX0_beginAnew 1 none, Cond.fieldLink RX0 9 "RegaliaVotes$Council" "things" "I", Cond.fieldLink RX0 15 "RegaliaVotes$Council" "officers" "I", Cond.fieldLink RX0 18 "RegaliaVotes$Council" "warmth" "I"]
def wsX5_readText_r2 : List Cond := [Cond.methodLink RX5 61 yX5_nextToken, Cond.instanceMethod yX5_nextToken, Cond.selects RX5 yX5_nextToken yX5_nextToken, Cond.code yX5_nextToken cX5_nextToken 1 none, Cond.fieldLink RX5 21 "RegaliaVotes$Reader" "tokenPlace" "I", Cond.methodLink RX5 91 yX5_isDigit, Cond.static yX5_isDigit, Cond.code yX5_isDigit cX5_isDigit 1 (some .boolean), Cond.methodLink RX5 95 yX5_takeDigits, Cond.instanceMethod yX5_takeDigits, Cond.selects RX5 yX5_takeDigits yX5_takeDigits, Cond.code yX5_takeDigits cX5_takeDigits 3 none, Cond.fieldLink RX5 24 "RegaliaVotes$Reader" "number" "I", Cond.methodLink RX5 46 yX5_readOfficers, Cond.instanceMethod yX5_readOfficers, Cond.selects RX5 yX5_readOfficers yX5_readOfficers, Cond.code yX5_readOfficers cX5_readOfficers 2 none, Cond.fieldLink RX5 78 "RegaliaVotes$Council" "officers" "I", Cond.methodLink RX5 55 yX5_markFault, Cond.instanceMethod yX5_markFault, Cond.selects RX5 yX5_markFault yX5_markFault, Cond.code yX5_markFault cX5_markFault 1 none, Cond.methodLink RX5 75 yX5_readNumber, Cond.instanceMethod yX5_readNumber]
def wsX5_readText_r3 : List Cond := [Cond.selects RX5 yX5_readNumber yX5_readNumber, Cond.code yX5_readNumber cX5_readNumber 3 (some .int), Cond.methodLink RX5 49 yX5_readThing, Cond.instanceMethod yX5_readThing, Cond.selects RX5 yX5_readThing yX5_readThing, Cond.code yX5_readThing cX5_readThing 5 none, Cond.fieldLink RX5 81 "RegaliaVotes$Council" "things" "I", Cond.methodLink RX5 84 yX0_addThing, Cond.instanceMethod yX0_addThing, Cond.selects RX0 yX0_addThing yX0_addThing, Cond.code yX0_addThing cX0_addThing 5 none, Cond.fieldLink RX0 21 "RegaliaVotes$Council" "sort" "[I", Cond.fieldLink RX0 25 "RegaliaVotes$Council" "votes" "[I", Cond.fieldLink RX0 28 "RegaliaVotes$Council" "forBills" "[I", Cond.fieldLink RX0 31 "RegaliaVotes$Council" "firstHolder" "[I", Cond.methodLink RX5 52 yX5_readWarmth, Cond.instanceMethod yX5_readWarmth, Cond.selects RX5 yX5_readWarmth yX5_readWarmth, Cond.code yX5_readWarmth cX5_readWarmth 1 none, Cond.fieldLink RX5 88 "RegaliaVotes$Council" "warmth" "I", Cond.methodLink RX5 58 yX5_readItemEnd, Cond.instanceMethod yX5_readItemEnd, Cond.selects RX5 yX5_readItemEnd yX5_readItemEnd, Cond.code yX5_readItemEnd cX5_readItemEnd 1 none]
def wsX5_readText : List Cond := .code yX5_readText cX5_readText 3 (some .int) :: ((wsX5_readText_r1 ++ (wsX5_readText_r2 ++ wsX5_readText_r3)) ++ wsX50 ++ wsX00)
def wsX6_init : List Cond := .code yX6_init cX6_init 3 none :: ([.methodLink RX6 3 objectInit, .instanceMethod objectInit, .code objectInit ⟨#[0xb1]⟩ 1 none, .fieldLink RX6 9 "RegaliaVotes$Vote" "told" "LRegaliaVotes$Council;", .fieldLink RX6 15 "RegaliaVotes$Vote" "moment" "LRegaliaVotes$Moment;"] ++ wsX60)
def wsX6_passes_r1 : List Cond := [Cond.methodLink RX6 73 yX6_voices, Cond.instanceMethod yX6_voices, Cond.selects RX6 yX6_voices yX6_voices, Cond.initialized RX6, Cond.code yX6_voices cX6_voices 1 (some .int), Cond.fieldLink RX6 15 "RegaliaVotes$Vote" "moment" "LRegaliaVotes$Moment;", Cond.fieldLink RX6 44 "RegaliaVotes$Moment" "sick" "I", Cond.methodLink RX6 47 yX6_voicesIfSick, Cond.instanceMethod yX6_voicesIfSick, Cond.selects RX6 yX6_voicesIfSick yX6_voicesIfSick, Cond.code yX6_voicesIfSick cX6_voicesIfSick 2 (some .int), Cond.methodLink RX6 51 yX6_able, Cond.instanceMethod yX6_able, Cond.selects RX6 yX6_able yX6_able, Cond.code yX6_able cX6_able 4 (some .int), Cond.fieldLink RX6 9 "RegaliaVotes$Vote" "told" "LRegaliaVotes$Council;", Cond.fieldLink RX6 19 "RegaliaVotes$Council" "things" "I", Cond.fieldLink RX6 25 "RegaliaVotes$Council" "sort" "[I", Cond.fieldLink RX6 29 "RegaliaVotes$Moment" "warmth" "[I", Cond.fieldLink RX6 34 "RegaliaVotes$Moment" "wash" "I", Cond.methodLink RX6 55 yX6_heldBy, Cond.instanceMethod yX6_heldBy, Cond.selects RX6 yX6_heldBy yX6_heldBy, Cond.code yX6_heldBy cX6_heldBy 4 (some .int)]
def wsX6_passes_r2 : List Cond := [Cond.fieldLink RX6 37 "RegaliaVotes$Moment" "holder" "[I", Cond.static yX7_bit, Cond.initialized RX7, Cond.code yX7_bit cX7_bit 2 (some .int), Cond.methodLink RX6 67 yX6_yesOf, Cond.instanceMethod yX6_yesOf, Cond.selects RX6 yX6_yesOf yX6_yesOf, Cond.code yX6_yesOf cX6_yesOf 4 (some .int), Cond.fieldLink RX6 61 "RegaliaVotes$Council" "forBills" "[I", Cond.fieldLink RX6 64 "RegaliaVotes$Moment" "turned" "I", Cond.methodLink RX6 76 yX6_passesBy, Cond.instanceMethod yX6_passesBy, Cond.selects RX6 yX6_passesBy yX6_passesBy, Cond.code yX6_passesBy cX6_passesBy 3 (some .boolean), Cond.methodLink RX6 70 yX6_votesOf, Cond.instanceMethod yX6_votesOf, Cond.selects RX6 yX6_votesOf yX6_votesOf, Cond.code yX6_votesOf cX6_votesOf 4 (some .int), Cond.fieldLink RX6 58 "RegaliaVotes$Council" "votes" "[I"]
def wsX6_passes : List Cond := .code yX6_passes cX6_passes 2 (some .boolean) :: ((wsX6_passes_r1 ++ wsX6_passes_r2) ++ wsX60 ++ wsX20 ++ wsX00)
def wsX6_votesHeldBy_r1 : List Cond := [Cond.methodLink RX6 73 yX6_voices, Cond.instanceMethod yX6_voices, Cond.selects RX6 yX6_voices yX6_voices, Cond.initialized RX6, Cond.code yX6_voices cX6_voices 1 (some .int), Cond.fieldLink RX6 15 "RegaliaVotes$Vote" "moment" "LRegaliaVotes$Moment;", Cond.fieldLink RX6 44 "RegaliaVotes$Moment" "sick" "I", Cond.methodLink RX6 47 yX6_voicesIfSick, Cond.instanceMethod yX6_voicesIfSick, Cond.selects RX6 yX6_voicesIfSick yX6_voicesIfSick, Cond.code yX6_voicesIfSick cX6_voicesIfSick 2 (some .int), Cond.methodLink RX6 51 yX6_able, Cond.instanceMethod yX6_able, Cond.selects RX6 yX6_able yX6_able, Cond.code yX6_able cX6_able 4 (some .int), Cond.fieldLink RX6 9 "RegaliaVotes$Vote" "told" "LRegaliaVotes$Council;", Cond.fieldLink RX6 19 "RegaliaVotes$Council" "things" "I", Cond.fieldLink RX6 25 "RegaliaVotes$Council" "sort" "[I", Cond.fieldLink RX6 29 "RegaliaVotes$Moment" "warmth" "[I", Cond.fieldLink RX6 34 "RegaliaVotes$Moment" "wash" "I", Cond.methodLink RX6 55 yX6_heldBy, Cond.instanceMethod yX6_heldBy, Cond.selects RX6 yX6_heldBy yX6_heldBy, Cond.code yX6_heldBy cX6_heldBy 4 (some .int)]
def wsX6_votesHeldBy_r2 : List Cond := [Cond.fieldLink RX6 37 "RegaliaVotes$Moment" "holder" "[I", Cond.static yX7_bit, Cond.initialized RX7, Cond.code yX7_bit cX7_bit 2 (some .int), Cond.methodLink RX6 70 yX6_votesOf, Cond.instanceMethod yX6_votesOf, Cond.selects RX6 yX6_votesOf yX6_votesOf, Cond.code yX6_votesOf cX6_votesOf 4 (some .int), Cond.fieldLink RX6 58 "RegaliaVotes$Council" "votes" "[I"]
def wsX6_votesHeldBy : List Cond := .code yX6_votesHeldBy cX6_votesHeldBy 2 (some .int) :: ((wsX6_votesHeldBy_r1 ++ wsX6_votesHeldBy_r2) ++ wsX60 ++ wsX20 ++ wsX00)
def wsX6_mostHolder_r1 : List Cond := [Cond.fieldLink RX6 9 "RegaliaVotes$Vote" "told" "LRegaliaVotes$Council;", Cond.fieldLink RX6 83 "RegaliaVotes$Council" "officers" "I", Cond.methodLink RX6 80 yX6_votesHeldBy, Cond.instanceMethod yX6_votesHeldBy, Cond.selects RX6 yX6_votesHeldBy yX6_votesHeldBy, Cond.initialized RX6, Cond.code yX6_votesHeldBy cX6_votesHeldBy 2 (some .int), Cond.methodLink RX6 73 yX6_voices, Cond.instanceMethod yX6_voices, Cond.selects RX6 yX6_voices yX6_voices, Cond.code yX6_voices cX6_voices 1 (some .int), Cond.fieldLink RX6 15 "RegaliaVotes$Vote" "moment" "LRegaliaVotes$Moment;", Cond.fieldLink RX6 44 "RegaliaVotes$Moment" "sick" "I", Cond.methodLink RX6 47 yX6_voicesIfSick, Cond.instanceMethod yX6_voicesIfSick, Cond.selects RX6 yX6_voicesIfSick yX6_voicesIfSick, Cond.code yX6_voicesIfSick cX6_voicesIfSick 2 (some .int), Cond.methodLink RX6 51 yX6_able, Cond.instanceMethod yX6_able, Cond.selects RX6 yX6_able yX6_able, Cond.code yX6_able cX6_able 4 (some .int), Cond.fieldLink RX6 19 "RegaliaVotes$Council" "things" "I", Cond.fieldLink RX6 25 "RegaliaVotes$Council" "sort" "[I", Cond.fieldLink RX6 29 "RegaliaVotes$Moment" "warmth" "[I"]
def wsX6_mostHolder_r2 : List Cond := [Cond.fieldLink RX6 34 "RegaliaVotes$Moment" "wash" "I", Cond.methodLink RX6 55 yX6_heldBy, Cond.instanceMethod yX6_heldBy, Cond.selects RX6 yX6_heldBy yX6_heldBy, Cond.code yX6_heldBy cX6_heldBy 4 (some .int), Cond.fieldLink RX6 37 "RegaliaVotes$Moment" "holder" "[I", Cond.static yX7_bit, Cond.initialized RX7, Cond.code yX7_bit cX7_bit 2 (some .int), Cond.methodLink RX6 70 yX6_votesOf, Cond.instanceMethod yX6_votesOf, Cond.selects RX6 yX6_votesOf yX6_votesOf, Cond.code yX6_votesOf cX6_votesOf 4 (some .int), Cond.fieldLink RX6 58 "RegaliaVotes$Council" "votes" "[I"]
def wsX6_mostHolder : List Cond := .code yX6_mostHolder cX6_mostHolder 5 (some .int) :: ((wsX6_mostHolder_r1 ++ wsX6_mostHolder_r2) ++ wsX60 ++ wsX00 ++ wsX20)
def wsX6_swayers_r1 : List Cond := [Cond.fieldLink RX6 9 "RegaliaVotes$Vote" "told" "LRegaliaVotes$Council;", Cond.fieldLink RX6 19 "RegaliaVotes$Council" "things" "I", Cond.methodLink RX6 73 yX6_voices, Cond.instanceMethod yX6_voices, Cond.selects RX6 yX6_voices yX6_voices, Cond.initialized RX6, Cond.code yX6_voices cX6_voices 1 (some .int), Cond.fieldLink RX6 15 "RegaliaVotes$Vote" "moment" "LRegaliaVotes$Moment;", Cond.fieldLink RX6 44 "RegaliaVotes$Moment" "sick" "I", Cond.methodLink RX6 47 yX6_voicesIfSick, Cond.instanceMethod yX6_voicesIfSick, Cond.selects RX6 yX6_voicesIfSick yX6_voicesIfSick, Cond.code yX6_voicesIfSick cX6_voicesIfSick 2 (some .int), Cond.methodLink RX6 51 yX6_able, Cond.instanceMethod yX6_able, Cond.selects RX6 yX6_able yX6_able, Cond.code yX6_able cX6_able 4 (some .int), Cond.fieldLink RX6 25 "RegaliaVotes$Council" "sort" "[I", Cond.fieldLink RX6 29 "RegaliaVotes$Moment" "warmth" "[I", Cond.fieldLink RX6 34 "RegaliaVotes$Moment" "wash" "I", Cond.methodLink RX6 55 yX6_heldBy, Cond.instanceMethod yX6_heldBy, Cond.selects RX6 yX6_heldBy yX6_heldBy, Cond.code yX6_heldBy cX6_heldBy 4 (some .int)]
def wsX6_swayers_r2 : List Cond := [Cond.fieldLink RX6 37 "RegaliaVotes$Moment" "holder" "[I", Cond.static yX7_bit, Cond.initialized RX7, Cond.code yX7_bit cX7_bit 2 (some .int), Cond.methodLink RX6 67 yX6_yesOf, Cond.instanceMethod yX6_yesOf, Cond.selects RX6 yX6_yesOf yX6_yesOf, Cond.code yX6_yesOf cX6_yesOf 4 (some .int), Cond.fieldLink RX6 61 "RegaliaVotes$Council" "forBills" "[I", Cond.fieldLink RX6 64 "RegaliaVotes$Moment" "turned" "I", Cond.methodLink RX6 76 yX6_passesBy, Cond.instanceMethod yX6_passesBy, Cond.selects RX6 yX6_passesBy yX6_passesBy, Cond.code yX6_passesBy cX6_passesBy 3 (some .boolean), Cond.methodLink RX6 70 yX6_votesOf, Cond.instanceMethod yX6_votesOf, Cond.selects RX6 yX6_votesOf yX6_votesOf, Cond.code yX6_votesOf cX6_votesOf 4 (some .int), Cond.fieldLink RX6 58 "RegaliaVotes$Council" "votes" "[I"]
def wsX6_swayers : List Cond := .code yX6_swayers cX6_swayers 8 (some .int) :: ((wsX6_swayers_r1 ++ wsX6_swayers_r2) ++ wsX60 ++ wsX00 ++ wsX20)
def wsX6_isFewer : List Cond := .code yX6_isFewer cX6_isFewer 2 (some .boolean) :: ([.methodLink RX6 96 yJ6_bitCount_0f7a4, .static yJ6_bitCount_0f7a4, .initialized RJ6, .code yJ6_bitCount_0f7a4 cJ6_bitCount_0f7a4 1 (some .int), .constant RJ6 265 (1431655765), .constant RJ6 266 (858993459), .constant RJ6 267 (252645135)])
def wsX6_fewestTurned_r1 : List Cond := [Cond.methodLink RX6 73 yX6_voices, Cond.instanceMethod yX6_voices, Cond.selects RX6 yX6_voices yX6_voices, Cond.initialized RX6, Cond.code yX6_voices cX6_voices 1 (some .int), Cond.fieldLink RX6 15 "RegaliaVotes$Vote" "moment" "LRegaliaVotes$Moment;", Cond.fieldLink RX6 44 "RegaliaVotes$Moment" "sick" "I", Cond.methodLink RX6 47 yX6_voicesIfSick, Cond.instanceMethod yX6_voicesIfSick, Cond.selects RX6 yX6_voicesIfSick yX6_voicesIfSick, Cond.code yX6_voicesIfSick cX6_voicesIfSick 2 (some .int), Cond.methodLink RX6 51 yX6_able, Cond.instanceMethod yX6_able, Cond.selects RX6 yX6_able yX6_able, Cond.code yX6_able cX6_able 4 (some .int), Cond.fieldLink RX6 9 "RegaliaVotes$Vote" "told" "LRegaliaVotes$Council;", Cond.fieldLink RX6 19 "RegaliaVotes$Council" "things" "I", Cond.fieldLink RX6 25 "RegaliaVotes$Council" "sort" "[I", Cond.fieldLink RX6 29 "RegaliaVotes$Moment" "warmth" "[I", Cond.fieldLink RX6 34 "RegaliaVotes$Moment" "wash" "I", Cond.methodLink RX6 55 yX6_heldBy, Cond.instanceMethod yX6_heldBy, Cond.selects RX6 yX6_heldBy yX6_heldBy, Cond.code yX6_heldBy cX6_heldBy 4 (some .int)]
def wsX6_fewestTurned_r2 : List Cond := [Cond.fieldLink RX6 37 "RegaliaVotes$Moment" "holder" "[I", Cond.static yX7_bit, Cond.initialized RX7, Cond.code yX7_bit cX7_bit 2 (some .int), Cond.methodLink RX6 67 yX6_yesOf, Cond.instanceMethod yX6_yesOf, Cond.selects RX6 yX6_yesOf yX6_yesOf, Cond.code yX6_yesOf cX6_yesOf 4 (some .int), Cond.fieldLink RX6 61 "RegaliaVotes$Council" "forBills" "[I", Cond.fieldLink RX6 64 "RegaliaVotes$Moment" "turned" "I", Cond.static yX7_isWithin, Cond.code yX7_isWithin cX7_isWithin 2 (some .boolean), Cond.methodLink RX6 89 yX6_isFewer, Cond.static yX6_isFewer, Cond.code yX6_isFewer cX6_isFewer 2 (some .boolean), Cond.methodLink RX6 96 yJ6_bitCount_0f7a4, Cond.static yJ6_bitCount_0f7a4, Cond.initialized RJ6, Cond.code yJ6_bitCount_0f7a4 cJ6_bitCount_0f7a4 1 (some .int), Cond.constant RJ6 265 (1431655765), Cond.constant RJ6 266 (858993459), Cond.constant RJ6 267 (252645135), Cond.methodLink RX6 76 yX6_passesBy, Cond.instanceMethod yX6_passesBy]
def wsX6_fewestTurned_r3 : List Cond := [Cond.selects RX6 yX6_passesBy yX6_passesBy, Cond.code yX6_passesBy cX6_passesBy 3 (some .boolean), Cond.methodLink RX6 70 yX6_votesOf, Cond.instanceMethod yX6_votesOf, Cond.selects RX6 yX6_votesOf yX6_votesOf, Cond.code yX6_votesOf cX6_votesOf 4 (some .int), Cond.fieldLink RX6 58 "RegaliaVotes$Council" "votes" "[I"]
def wsX6_fewestTurned : List Cond := .code yX6_fewestTurned cX6_fewestTurned 6 (some .int) :: ((wsX6_fewestTurned_r1 ++ (wsX6_fewestTurned_r2 ++ wsX6_fewestTurned_r3)) ++ wsX60 ++ wsX20 ++ wsX00)
def wsX6_isAnyoneWell : List Cond := .code yX6_isAnyoneWell cX6_isAnyoneWell 1 (some .boolean) :: ([.fieldLink RX6 15 "RegaliaVotes$Vote" "moment" "LRegaliaVotes$Moment;", .fieldLink RX6 44 "RegaliaVotes$Moment" "sick" "I", .fieldLink RX6 9 "RegaliaVotes$Vote" "told" "LRegaliaVotes$Council;", .fieldLink RX6 83 "RegaliaVotes$Council" "officers" "I", .methodLink RX6 96 yJ6_bitCount_0f7a4, .static yJ6_bitCount_0f7a4, .initialized RJ6, .code yJ6_bitCount_0f7a4 cJ6_bitCount_0f7a4 1 (some .int), .constant RJ6 265 (1431655765), .constant RJ6 266 (858993459), .constant RJ6 267 (252645135)] ++ wsX60 ++ wsX20 ++ wsX00)
def wsX6_fewestHanded_r1 : List Cond := [Cond.fieldLink RX6 15 "RegaliaVotes$Vote" "moment" "LRegaliaVotes$Moment;", Cond.fieldLink RX6 44 "RegaliaVotes$Moment" "sick" "I", Cond.methodLink RX6 51 yX6_able, Cond.instanceMethod yX6_able, Cond.selects RX6 yX6_able yX6_able, Cond.initialized RX6, Cond.code yX6_able cX6_able 4 (some .int), Cond.fieldLink RX6 9 "RegaliaVotes$Vote" "told" "LRegaliaVotes$Council;", Cond.fieldLink RX6 19 "RegaliaVotes$Council" "things" "I", Cond.fieldLink RX6 25 "RegaliaVotes$Council" "sort" "[I", Cond.fieldLink RX6 29 "RegaliaVotes$Moment" "warmth" "[I", Cond.fieldLink RX6 34 "RegaliaVotes$Moment" "wash" "I", Cond.methodLink RX6 73 yX6_voices, Cond.instanceMethod yX6_voices, Cond.selects RX6 yX6_voices yX6_voices, Cond.code yX6_voices cX6_voices 1 (some .int), Cond.methodLink RX6 47 yX6_voicesIfSick, Cond.instanceMethod yX6_voicesIfSick, Cond.selects RX6 yX6_voicesIfSick yX6_voicesIfSick, Cond.code yX6_voicesIfSick cX6_voicesIfSick 2 (some .int), Cond.methodLink RX6 55 yX6_heldBy, Cond.instanceMethod yX6_heldBy, Cond.selects RX6 yX6_heldBy yX6_heldBy, Cond.code yX6_heldBy cX6_heldBy 4 (some .int)]
def wsX6_fewestHanded_r2 : List Cond := [Cond.fieldLink RX6 37 "RegaliaVotes$Moment" "holder" "[I", Cond.static yX7_bit, Cond.initialized RX7, Cond.code yX7_bit cX7_bit 2 (some .int), Cond.methodLink RX6 67 yX6_yesOf, Cond.instanceMethod yX6_yesOf, Cond.selects RX6 yX6_yesOf yX6_yesOf, Cond.code yX6_yesOf cX6_yesOf 4 (some .int), Cond.fieldLink RX6 61 "RegaliaVotes$Council" "forBills" "[I", Cond.fieldLink RX6 64 "RegaliaVotes$Moment" "turned" "I", Cond.methodLink RX6 92 yX6_isAnyoneWell, Cond.instanceMethod yX6_isAnyoneWell, Cond.selects RX6 yX6_isAnyoneWell yX6_isAnyoneWell, Cond.code yX6_isAnyoneWell cX6_isAnyoneWell 1 (some .boolean), Cond.fieldLink RX6 83 "RegaliaVotes$Council" "officers" "I", Cond.methodLink RX6 96 yJ6_bitCount_0f7a4, Cond.static yJ6_bitCount_0f7a4, Cond.initialized RJ6, Cond.code yJ6_bitCount_0f7a4 cJ6_bitCount_0f7a4 1 (some .int), Cond.constant RJ6 265 (1431655765), Cond.constant RJ6 266 (858993459), Cond.constant RJ6 267 (252645135), Cond.static yX7_isWithin, Cond.code yX7_isWithin cX7_isWithin 2 (some .boolean)]
def wsX6_fewestHanded_r3 : List Cond := [Cond.methodLink RX6 89 yX6_isFewer, Cond.static yX6_isFewer, Cond.code yX6_isFewer cX6_isFewer 2 (some .boolean), Cond.methodLink RX6 76 yX6_passesBy, Cond.instanceMethod yX6_passesBy, Cond.selects RX6 yX6_passesBy yX6_passesBy, Cond.code yX6_passesBy cX6_passesBy 3 (some .boolean), Cond.methodLink RX6 70 yX6_votesOf, Cond.instanceMethod yX6_votesOf, Cond.selects RX6 yX6_votesOf yX6_votesOf, Cond.code yX6_votesOf cX6_votesOf 4 (some .int), Cond.fieldLink RX6 58 "RegaliaVotes$Council" "votes" "[I"]
def wsX6_fewestHanded : List Cond := .code yX6_fewestHanded cX6_fewestHanded 8 (some .int) :: ((wsX6_fewestHanded_r1 ++ (wsX6_fewestHanded_r2 ++ wsX6_fewestHanded_r3)) ++ wsX60 ++ wsX20 ++ wsX00)
def wsX6_exchanged : List Cond := .code yX6_exchanged cX6_exchanged 4 (some .int) :: ([.static yX7_bit, .initialized RX7, .code yX7_bit cX7_bit 2 (some .int)])
def wsX6_changingSwaps_r1 : List Cond := [Cond.fieldLink RX6 15 "RegaliaVotes$Vote" "moment" "LRegaliaVotes$Moment;", Cond.fieldLink RX6 44 "RegaliaVotes$Moment" "sick" "I", Cond.fieldLink RX6 9 "RegaliaVotes$Vote" "told" "LRegaliaVotes$Council;", Cond.fieldLink RX6 19 "RegaliaVotes$Council" "things" "I", Cond.fieldLink RX6 37 "RegaliaVotes$Moment" "holder" "[I", Cond.methodLink RX6 51 yX6_able, Cond.instanceMethod yX6_able, Cond.selects RX6 yX6_able yX6_able, Cond.initialized RX6, Cond.code yX6_able cX6_able 4 (some .int), Cond.fieldLink RX6 25 "RegaliaVotes$Council" "sort" "[I", Cond.fieldLink RX6 29 "RegaliaVotes$Moment" "warmth" "[I", Cond.fieldLink RX6 34 "RegaliaVotes$Moment" "wash" "I", Cond.methodLink RX6 55 yX6_heldBy, Cond.instanceMethod yX6_heldBy, Cond.selects RX6 yX6_heldBy yX6_heldBy, Cond.code yX6_heldBy cX6_heldBy 4 (some .int), Cond.static yX7_bit, Cond.initialized RX7, Cond.code yX7_bit cX7_bit 2 (some .int), Cond.methodLink RX6 67 yX6_yesOf, Cond.instanceMethod yX6_yesOf, Cond.selects RX6 yX6_yesOf yX6_yesOf, Cond.code yX6_yesOf cX6_yesOf 4 (some .int)]
def wsX6_changingSwaps_r2 : List Cond := [Cond.fieldLink RX6 61 "RegaliaVotes$Council" "forBills" "[I", Cond.fieldLink RX6 64 "RegaliaVotes$Moment" "turned" "I", Cond.methodLink RX6 76 yX6_passesBy, Cond.instanceMethod yX6_passesBy, Cond.selects RX6 yX6_passesBy yX6_passesBy, Cond.code yX6_passesBy cX6_passesBy 3 (some .boolean), Cond.methodLink RX6 70 yX6_votesOf, Cond.instanceMethod yX6_votesOf, Cond.selects RX6 yX6_votesOf yX6_votesOf, Cond.code yX6_votesOf cX6_votesOf 4 (some .int), Cond.fieldLink RX6 58 "RegaliaVotes$Council" "votes" "[I", Cond.methodLink RX6 101 yX6_exchanged, Cond.static yX6_exchanged, Cond.code yX6_exchanged cX6_exchanged 4 (some .int)]
def wsX6_changingSwaps : List Cond := .code yX6_changingSwaps cX6_changingSwaps 10 (some .int) :: ((wsX6_changingSwaps_r1 ++ wsX6_changingSwaps_r2) ++ wsX60 ++ wsX20 ++ wsX00)
def wsX6_chances : List Cond := .code yX6_chances cX6_chances 3 (some .int) :: ([.fieldLink RX6 9 "RegaliaVotes$Vote" "told" "LRegaliaVotes$Council;", .fieldLink RX6 83 "RegaliaVotes$Council" "officers" "I"] ++ wsX60 ++ wsX00)
def wsX6_chancesOfSick : List Cond := .code yX6_chancesOfSick cX6_chancesOfSick 5 (some .int) :: ([.fieldLink RX6 9 "RegaliaVotes$Vote" "told" "LRegaliaVotes$Council;", .fieldLink RX6 83 "RegaliaVotes$Council" "officers" "I", .static yX7_bit, .initialized RX7, .code yX7_bit cX7_bit 2 (some .int)] ++ wsX60 ++ wsX00)
def wsX6_chancesToPass_r1 : List Cond := [Cond.fieldLink RX6 9 "RegaliaVotes$Vote" "told" "LRegaliaVotes$Council;", Cond.fieldLink RX6 83 "RegaliaVotes$Council" "officers" "I", Cond.methodLink RX6 67 yX6_yesOf, Cond.instanceMethod yX6_yesOf, Cond.selects RX6 yX6_yesOf yX6_yesOf, Cond.initialized RX6, Cond.code yX6_yesOf cX6_yesOf 4 (some .int), Cond.fieldLink RX6 19 "RegaliaVotes$Council" "things" "I", Cond.fieldLink RX6 61 "RegaliaVotes$Council" "forBills" "[I", Cond.fieldLink RX6 15 "RegaliaVotes$Vote" "moment" "LRegaliaVotes$Moment;", Cond.fieldLink RX6 64 "RegaliaVotes$Moment" "turned" "I", Cond.static yX7_bit, Cond.initialized RX7, Cond.code yX7_bit cX7_bit 2 (some .int), Cond.methodLink RX6 47 yX6_voicesIfSick, Cond.instanceMethod yX6_voicesIfSick, Cond.selects RX6 yX6_voicesIfSick yX6_voicesIfSick, Cond.code yX6_voicesIfSick cX6_voicesIfSick 2 (some .int), Cond.methodLink RX6 51 yX6_able, Cond.instanceMethod yX6_able, Cond.selects RX6 yX6_able yX6_able, Cond.code yX6_able cX6_able 4 (some .int), Cond.fieldLink RX6 25 "RegaliaVotes$Council" "sort" "[I", Cond.fieldLink RX6 29 "RegaliaVotes$Moment" "warmth" "[I"]
def wsX6_chancesToPass_r2 : List Cond := [Cond.fieldLink RX6 34 "RegaliaVotes$Moment" "wash" "I", Cond.methodLink RX6 55 yX6_heldBy, Cond.instanceMethod yX6_heldBy, Cond.selects RX6 yX6_heldBy yX6_heldBy, Cond.code yX6_heldBy cX6_heldBy 4 (some .int), Cond.fieldLink RX6 37 "RegaliaVotes$Moment" "holder" "[I", Cond.methodLink RX6 76 yX6_passesBy, Cond.instanceMethod yX6_passesBy, Cond.selects RX6 yX6_passesBy yX6_passesBy, Cond.code yX6_passesBy cX6_passesBy 3 (some .boolean), Cond.methodLink RX6 70 yX6_votesOf, Cond.instanceMethod yX6_votesOf, Cond.selects RX6 yX6_votesOf yX6_votesOf, Cond.code yX6_votesOf cX6_votesOf 4 (some .int), Cond.fieldLink RX6 58 "RegaliaVotes$Council" "votes" "[I", Cond.methodLink RX6 105 yX6_chancesOfSick, Cond.instanceMethod yX6_chancesOfSick, Cond.selects RX6 yX6_chancesOfSick yX6_chancesOfSick, Cond.code yX6_chancesOfSick cX6_chancesOfSick 5 (some .int)]
def wsX6_chancesToPass : List Cond := .code yX6_chancesToPass cX6_chancesToPass 6 (some .int) :: ((wsX6_chancesToPass_r1 ++ wsX6_chancesToPass_r2) ++ wsX60 ++ wsX00 ++ wsX20)
def wsX7_init_r1 : List Cond := [Cond.methodLink RX7 1 objectInit, Cond.instanceMethod objectInit, Cond.code objectInit ⟨#[0xb1]⟩ 1 none, Cond.arrayClass .char, Cond.fieldLink RX7 9 "RegaliaVotes" "text" "[C", Cond.fieldLink RX7 13 "RegaliaVotes" "letters" "I", Cond.classLink RX7 17 RX0, Cond.instantiable RX0 7, Cond.initialized RX0, Cond.fieldLink RX7 20 "RegaliaVotes" "told" "LRegaliaVotes$Council;", Cond.fieldLink RX7 24 "RegaliaVotes" "draft" "LRegaliaVotes$Council;", Cond.classLink RX7 27 RX5, Cond.instantiable RX5 9, Cond.initialized RX5, Cond.fieldLink RX7 32 "RegaliaVotes" "reader" "LRegaliaVotes$Reader;", Cond.classLink RX7 36 RX2, Cond.instantiable RX2 7, Cond.initialized RX2, Cond.fieldLink RX7 39 "RegaliaVotes" "moment" "LRegaliaVotes$Moment;", Cond.classLink RX7 43 RX6, Cond.instantiable RX6 2, Cond.initialized RX6, Cond.fieldLink RX7 48 "RegaliaVotes" "vote" "LRegaliaVotes$Vote;", Cond.classLink RX7 52 RX4]
def wsX7_init_r2 : List Cond := [Cond.instantiable RX4 1, Cond.initialized RX4, Cond.fieldLink RX7 57 "RegaliaVotes" "powers" "LRegaliaVotes$Power;", Cond.classLink RX7 61 RX1, Cond.instantiable RX1 4, Cond.initialized RX1, Cond.fieldLink RX7 64 "RegaliaVotes" "minutes" "LRegaliaVotes$Minutes;", Cond.classLink RX7 68 RX3, Cond.instantiable RX3 3, Cond.initialized RX3, Cond.fieldLink RX7 71 "RegaliaVotes" "past" "LRegaliaVotes$Past;", Cond.fieldLink RX7 75 "RegaliaVotes" "images" "[LRegaliaVotes$Moment;", Cond.fieldLink RX7 79 "RegaliaVotes" "kept" "I", Cond.fieldLink RX7 82 "RegaliaVotes" "traced" "J", Cond.instanceMethod yX0_init, Cond.code yX0_init cX0_init 1 none, Cond.methodLink RX0 3 objectInit, Cond.fieldLink RX0 9 "RegaliaVotes$Council" "things" "I", Cond.fieldLink RX0 15 "RegaliaVotes$Council" "officers" "I", Cond.fieldLink RX0 18 "RegaliaVotes$Council" "warmth" "I", Cond.arrayClass .int, Cond.fieldLink RX0 21 "RegaliaVotes$Council" "sort" "[I", Cond.fieldLink RX0 25 "RegaliaVotes$Council" "votes" "[I", Cond.fieldLink RX0 28 "RegaliaVotes$Council" "forBills" "[I"]
def wsX7_init_r3 : List Cond := [Cond.fieldLink RX0 31 "RegaliaVotes$Council" "firstHolder" "[I", Cond.methodLink RX7 29 yX5_init, Cond.instanceMethod yX5_init, Cond.code yX5_init cX5_init 3 none, Cond.methodLink RX5 3 objectInit, Cond.fieldLink RX5 9 "RegaliaVotes$Reader" "length" "I", Cond.fieldLink RX5 15 "RegaliaVotes$Reader" "place" "I", Cond.fieldLink RX5 18 "RegaliaVotes$Reader" "token" "I", Cond.fieldLink RX5 21 "RegaliaVotes$Reader" "tokenPlace" "I", Cond.fieldLink RX5 24 "RegaliaVotes$Reader" "number" "I", Cond.fieldLink RX5 27 "RegaliaVotes$Reader" "fault" "I", Cond.fieldLink RX5 30 "RegaliaVotes$Reader" "warmthTold" "Z", Cond.fieldLink RX5 34 "RegaliaVotes$Reader" "text" "[C", Cond.fieldLink RX5 38 "RegaliaVotes$Reader" "draft" "LRegaliaVotes$Council;", Cond.instanceMethod yX2_init, Cond.code yX2_init cX2_init 1 none, Cond.methodLink RX2 3 objectInit, Cond.fieldLink RX2 9 "RegaliaVotes$Moment" "holder" "[I", Cond.fieldLink RX2 15 "RegaliaVotes$Moment" "warmth" "[I", Cond.fieldLink RX2 18 "RegaliaVotes$Moment" "wash" "I", Cond.fieldLink RX2 22 "RegaliaVotes$Moment" "turned" "I", Cond.fieldLink RX2 25 "RegaliaVotes$Moment" "sick" "I", Cond.fieldLink RX2 28 "RegaliaVotes$Moment" "put" "I", Cond.fieldLink RX2 31 "RegaliaVotes$Moment" "passed" "I"]
def wsX7_init_r4 : List Cond := [Cond.methodLink RX7 45 yX6_init, Cond.instanceMethod yX6_init, Cond.code yX6_init cX6_init 3 none, Cond.methodLink RX6 3 objectInit, Cond.fieldLink RX6 9 "RegaliaVotes$Vote" "told" "LRegaliaVotes$Council;", Cond.fieldLink RX6 15 "RegaliaVotes$Vote" "moment" "LRegaliaVotes$Moment;", Cond.methodLink RX7 54 yX4_init, Cond.instanceMethod yX4_init, Cond.code yX4_init cX4_init 2 none, Cond.methodLink RX4 3 objectInit, Cond.fieldLink RX4 9 "RegaliaVotes$Power" "vote" "LRegaliaVotes$Vote;", Cond.methodLink RX7 63 yX1_init, Cond.instanceMethod yX1_init, Cond.code yX1_init cX1_init 2 none, Cond.methodLink RX1 3 objectInit, Cond.fieldLink RX1 9 "RegaliaVotes$Minutes" "bills" "[I", Cond.arrayClass .boolean, Cond.fieldLink RX1 15 "RegaliaVotes$Minutes" "outcomes" "[Z", Cond.fieldLink RX1 19 "RegaliaVotes$Minutes" "lines" "I", Cond.fieldLink RX1 23 "RegaliaVotes$Minutes" "vote" "LRegaliaVotes$Vote;", Cond.methodLink RX7 70 yX3_init, Cond.instanceMethod yX3_init, Cond.code yX3_init cX3_init 2 none, Cond.methodLink RX3 3 objectInit]
def wsX7_init_r5 : List Cond := [Cond.classLink RX3 9 RX2, Cond.fieldLink RX3 11 "RegaliaVotes$Past" "ring" "[LRegaliaVotes$Moment;", Cond.fieldLink RX3 17 "RegaliaVotes$Past" "next" "I", Cond.fieldLink RX3 21 "RegaliaVotes$Past" "known" "I"]
def wsX7_init : List Cond := .code yX7_init cX7_init 2 none :: ((wsX7_init_r1 ++ (wsX7_init_r2 ++ (wsX7_init_r3 ++ (wsX7_init_r4 ++ wsX7_init_r5)))) ++ wsX70 ++ wsX00 ++ wsX50 ++ wsX20 ++ wsX60 ++ wsX40 ++ wsX10 ++ wsX30)
def wsX7_type : List Cond := .code yX7_type cX7_type 2 (some .int) :: ([.fieldLink RX7 13 "RegaliaVotes" "letters" "I", .fieldLink RX7 9 "RegaliaVotes" "text" "[C"] ++ wsX70)
def wsX7_clear : List Cond := .code yX7_clear cX7_clear 2 (some .int) :: ([.fieldLink RX7 13 "RegaliaVotes" "letters" "I"] ++ wsX70)
def wsX7_council_r1 : List Cond := [Cond.fieldLink RX7 32 "RegaliaVotes" "reader" "LRegaliaVotes$Reader;", Cond.fieldLink RX7 13 "RegaliaVotes" "letters" "I", Cond.fieldLink RX7 20 "RegaliaVotes" "told" "LRegaliaVotes$Council;", Cond.fieldLink RX7 24 "RegaliaVotes" "draft" "LRegaliaVotes$Council;", Cond.fieldLink RX7 39 "RegaliaVotes" "moment" "LRegaliaVotes$Moment;", Cond.fieldLink RX7 64 "RegaliaVotes" "minutes" "LRegaliaVotes$Minutes;", Cond.fieldLink RX7 71 "RegaliaVotes" "past" "LRegaliaVotes$Past;", Cond.fieldLink RX7 79 "RegaliaVotes" "kept" "I", Cond.methodLink RX7 86 yX5_readText, Cond.instanceMethod yX5_readText, Cond.selects RX5 yX5_readText yX5_readText, Cond.initialized RX5, Cond.code yX5_readText cX5_readText 3 (some .int), Cond.fieldLink RX5 18 "RegaliaVotes$Reader" "token" "I", Cond.fieldLink RX5 27 "RegaliaVotes$Reader" "fault" "I", Cond.methodLink RX5 42 yX5_begin, Cond.instanceMethod yX5_begin, Cond.selects RX5 yX5_begin yX5_begin, Cond.code yX5_begin cX5_begin 2 none, Cond.fieldLink RX5 34 "RegaliaVotes$Reader" "text" "[C", Cond.methodLink RX5 64 Lib.Math.min.name, Cond.static Lib.Math.min.name, Cond.initialized "java/lang/Math", Cond.code Lib.Math.min.name Lib.Math.min.code 2 (some .int)]
def wsX7_council_r2 : List Cond := [Cond.fieldLink RX5 9 "RegaliaVotes$Reader" "length" "I", Cond.fieldLink RX5 15 "RegaliaVotes$Reader" "place" "I", Cond.fieldLink RX5 30 "RegaliaVotes$Reader" "warmthTold" "Z", Cond.fieldLink RX5 38 "RegaliaVotes$Reader" "draft" "LRegaliaVotes$Council;", Cond.methodLink RX5 70 yX0_beginAnew, Cond.instanceMethod yX0_beginAnew, Cond.selects RX0 yX0_beginAnew yX0_beginAnew, Cond.initialized RX0, Cond.code yX0_beginAnew cX0_beginAnew 1 none, Cond.fieldLink RX0 9 "RegaliaVotes$Council" "things" "I", Cond.fieldLink RX0 15 "RegaliaVotes$Council" "officers" "I", Cond.fieldLink RX0 18 "RegaliaVotes$Council" "warmth" "I", Cond.methodLink RX5 61 yX5_nextToken, Cond.instanceMethod yX5_nextToken, Cond.selects RX5 yX5_nextToken yX5_nextToken, Cond.code yX5_nextToken cX5_nextToken 1 none, Cond.fieldLink RX5 21 "RegaliaVotes$Reader" "tokenPlace" "I", Cond.methodLink RX5 91 yX5_isDigit, Cond.static yX5_isDigit, Cond.code yX5_isDigit cX5_isDigit 1 (some .boolean), Cond.methodLink RX5 95 yX5_takeDigits, Cond.instanceMethod yX5_takeDigits, Cond.selects RX5 yX5_takeDigits yX5_takeDigits, Cond.code yX5_takeDigits cX5_takeDigits 3 none]
def wsX7_council_r3 : List Cond := [Cond.fieldLink RX5 24 "RegaliaVotes$Reader" "number" "I", Cond.methodLink RX5 46 yX5_readOfficers, Cond.instanceMethod yX5_readOfficers, Cond.selects RX5 yX5_readOfficers yX5_readOfficers, Cond.code yX5_readOfficers cX5_readOfficers 2 none, Cond.fieldLink RX5 78 "RegaliaVotes$Council" "officers" "I", Cond.methodLink RX5 55 yX5_markFault, Cond.instanceMethod yX5_markFault, Cond.selects RX5 yX5_markFault yX5_markFault, Cond.code yX5_markFault cX5_markFault 1 none, Cond.methodLink RX5 75 yX5_readNumber, Cond.instanceMethod yX5_readNumber, Cond.selects RX5 yX5_readNumber yX5_readNumber, Cond.code yX5_readNumber cX5_readNumber 3 (some .int), Cond.methodLink RX5 49 yX5_readThing, Cond.instanceMethod yX5_readThing, Cond.selects RX5 yX5_readThing yX5_readThing, Cond.code yX5_readThing cX5_readThing 5 none, Cond.fieldLink RX5 81 "RegaliaVotes$Council" "things" "I", Cond.methodLink RX5 84 yX0_addThing, Cond.instanceMethod yX0_addThing, Cond.selects RX0 yX0_addThing yX0_addThing, Cond.code yX0_addThing cX0_addThing 5 none, Cond.fieldLink RX0 21 "RegaliaVotes$Council" "sort" "[I"]
def wsX7_council_r4 : List Cond := [Cond.fieldLink RX0 25 "RegaliaVotes$Council" "votes" "[I", Cond.fieldLink RX0 28 "RegaliaVotes$Council" "forBills" "[I", Cond.fieldLink RX0 31 "RegaliaVotes$Council" "firstHolder" "[I", Cond.methodLink RX5 52 yX5_readWarmth, Cond.instanceMethod yX5_readWarmth, Cond.selects RX5 yX5_readWarmth yX5_readWarmth, Cond.code yX5_readWarmth cX5_readWarmth 1 none, Cond.fieldLink RX5 88 "RegaliaVotes$Council" "warmth" "I", Cond.methodLink RX5 58 yX5_readItemEnd, Cond.instanceMethod yX5_readItemEnd, Cond.selects RX5 yX5_readItemEnd yX5_readItemEnd, Cond.code yX5_readItemEnd cX5_readItemEnd 1 none, Cond.methodLink RX7 90 yX0_copyFrom, Cond.instanceMethod yX0_copyFrom, Cond.selects RX0 yX0_copyFrom yX0_copyFrom, Cond.code yX0_copyFrom cX0_copyFrom 2 none, Cond.methodLink RX0 34 arraycopyName, Cond.native arraycopyName, Cond.static arraycopyName, Cond.initialized "java/lang/System", Cond.methodLink RX7 94 yX2_beginWith, Cond.instanceMethod yX2_beginWith, Cond.selects RX2 yX2_beginWith yX2_beginWith, Cond.initialized RX2]
def wsX7_council_r5 : List Cond := [Cond.code yX2_beginWith cX2_beginWith 2 none, Cond.fieldLink RX2 34 "RegaliaVotes$Council" "firstHolder" "[I", Cond.fieldLink RX2 9 "RegaliaVotes$Moment" "holder" "[I", Cond.methodLink RX2 39 arraycopyName, Cond.fieldLink RX2 15 "RegaliaVotes$Moment" "warmth" "[I", Cond.fieldLink RX2 18 "RegaliaVotes$Moment" "wash" "I", Cond.fieldLink RX2 22 "RegaliaVotes$Moment" "turned" "I", Cond.fieldLink RX2 25 "RegaliaVotes$Moment" "sick" "I", Cond.fieldLink RX2 28 "RegaliaVotes$Moment" "put" "I", Cond.fieldLink RX2 31 "RegaliaVotes$Moment" "passed" "I", Cond.methodLink RX2 45 yJ7_fill_53178, Cond.static yJ7_fill_53178, Cond.initialized RJ7, Cond.code yJ7_fill_53178 cJ7_fill_53178 4 none, Cond.methodLink RX7 97 yX1_tearUp, Cond.instanceMethod yX1_tearUp, Cond.selects RX1 yX1_tearUp yX1_tearUp, Cond.initialized RX1, Cond.code yX1_tearUp cX1_tearUp 1 none, Cond.fieldLink RX1 19 "RegaliaVotes$Minutes" "lines" "I", Cond.methodLink RX7 100 yX3_lose, Cond.instanceMethod yX3_lose, Cond.selects RX3 yX3_lose yX3_lose, Cond.initialized RX3]
def wsX7_council_r6 : List Cond := [Cond.code yX3_lose cX3_lose 1 none, Cond.fieldLink RX3 21 "RegaliaVotes$Past" "known" "I"]
def wsX7_council : List Cond := .code yX7_council cX7_council 2 (some .int) :: ((wsX7_council_r1 ++ (wsX7_council_r2 ++ (wsX7_council_r3 ++ (wsX7_council_r4 ++ (wsX7_council_r5 ++ wsX7_council_r6))))) ++ wsX70 ++ wsX50 ++ wsX00 ++ wsX20 ++ wsX10 ++ wsX30)
def wsX7_noThing : List Cond := .code yX7_noThing cX7_noThing 2 (some .boolean) :: ([.fieldLink RX7 20 "RegaliaVotes" "told" "LRegaliaVotes$Council;", .fieldLink RX7 274 "RegaliaVotes$Council" "things" "I"] ++ wsX70 ++ wsX00)
def wsX7_thing_r1 : List Cond := [Cond.fieldLink RX7 20 "RegaliaVotes" "told" "LRegaliaVotes$Council;", Cond.fieldLink RX7 107 "RegaliaVotes$Council" "sort" "[I", Cond.fieldLink RX7 111 "RegaliaVotes$Council" "votes" "[I", Cond.fieldLink RX7 114 "RegaliaVotes$Council" "forBills" "[I", Cond.fieldLink RX7 39 "RegaliaVotes" "moment" "LRegaliaVotes$Moment;", Cond.fieldLink RX7 117 "RegaliaVotes$Moment" "holder" "[I", Cond.fieldLink RX7 120 "RegaliaVotes$Moment" "wash" "I", Cond.fieldLink RX7 127 "RegaliaVotes$Moment" "turned" "I", Cond.fieldLink RX7 130 "RegaliaVotes$Moment" "warmth" "[I", Cond.fieldLink RX7 48 "RegaliaVotes" "vote" "LRegaliaVotes$Vote;", Cond.methodLink RX7 103 yX7_noThing, Cond.instanceMethod yX7_noThing, Cond.selects RX7 yX7_noThing yX7_noThing, Cond.initialized RX7, Cond.code yX7_noThing cX7_noThing 2 (some .boolean), Cond.fieldLink RX7 274 "RegaliaVotes$Council" "things" "I", Cond.methodLink RX7 123 yX7_bit, Cond.static yX7_bit, Cond.code yX7_bit cX7_bit 2 (some .int), Cond.methodLink RX7 133 yX6_voices, Cond.instanceMethod yX6_voices, Cond.selects RX6 yX6_voices yX6_voices, Cond.initialized RX6, Cond.code yX6_voices cX6_voices 1 (some .int)]
def wsX7_thing_r2 : List Cond := [Cond.fieldLink RX6 15 "RegaliaVotes$Vote" "moment" "LRegaliaVotes$Moment;", Cond.fieldLink RX6 44 "RegaliaVotes$Moment" "sick" "I", Cond.methodLink RX6 47 yX6_voicesIfSick, Cond.instanceMethod yX6_voicesIfSick, Cond.selects RX6 yX6_voicesIfSick yX6_voicesIfSick, Cond.code yX6_voicesIfSick cX6_voicesIfSick 2 (some .int), Cond.methodLink RX6 51 yX6_able, Cond.instanceMethod yX6_able, Cond.selects RX6 yX6_able yX6_able, Cond.code yX6_able cX6_able 4 (some .int), Cond.fieldLink RX6 9 "RegaliaVotes$Vote" "told" "LRegaliaVotes$Council;", Cond.fieldLink RX6 19 "RegaliaVotes$Council" "things" "I", Cond.fieldLink RX6 25 "RegaliaVotes$Council" "sort" "[I", Cond.fieldLink RX6 29 "RegaliaVotes$Moment" "warmth" "[I", Cond.fieldLink RX6 34 "RegaliaVotes$Moment" "wash" "I", Cond.methodLink RX6 55 yX6_heldBy, Cond.instanceMethod yX6_heldBy, Cond.selects RX6 yX6_heldBy yX6_heldBy, Cond.code yX6_heldBy cX6_heldBy 4 (some .int), Cond.fieldLink RX6 37 "RegaliaVotes$Moment" "holder" "[I"]
def wsX7_thing : List Cond := .code yX7_thing cX7_thing 3 (some .int) :: ((wsX7_thing_r1 ++ wsX7_thing_r2) ++ wsX70 ++ wsX00 ++ wsX20 ++ wsX60)
def wsX7_noOfficer : List Cond := .code yX7_noOfficer cX7_noOfficer 2 (some .boolean) :: ([.fieldLink RX7 20 "RegaliaVotes" "told" "LRegaliaVotes$Council;", .fieldLink RX7 277 "RegaliaVotes$Council" "officers" "I"] ++ wsX70 ++ wsX00)
def wsX7_officer_r1 : List Cond := [Cond.fieldLink RX7 39 "RegaliaVotes" "moment" "LRegaliaVotes$Moment;", Cond.fieldLink RX7 140 "RegaliaVotes$Moment" "sick" "I", Cond.fieldLink RX7 48 "RegaliaVotes" "vote" "LRegaliaVotes$Vote;", Cond.methodLink RX7 137 yX7_noOfficer, Cond.instanceMethod yX7_noOfficer, Cond.selects RX7 yX7_noOfficer yX7_noOfficer, Cond.initialized RX7, Cond.code yX7_noOfficer cX7_noOfficer 2 (some .boolean), Cond.fieldLink RX7 20 "RegaliaVotes" "told" "LRegaliaVotes$Council;", Cond.fieldLink RX7 277 "RegaliaVotes$Council" "officers" "I", Cond.methodLink RX7 123 yX7_bit, Cond.static yX7_bit, Cond.code yX7_bit cX7_bit 2 (some .int), Cond.methodLink RX7 143 yX6_heldBy, Cond.instanceMethod yX6_heldBy, Cond.selects RX6 yX6_heldBy yX6_heldBy, Cond.initialized RX6, Cond.code yX6_heldBy cX6_heldBy 4 (some .int), Cond.fieldLink RX6 9 "RegaliaVotes$Vote" "told" "LRegaliaVotes$Council;", Cond.fieldLink RX6 19 "RegaliaVotes$Council" "things" "I", Cond.fieldLink RX6 15 "RegaliaVotes$Vote" "moment" "LRegaliaVotes$Moment;", Cond.fieldLink RX6 37 "RegaliaVotes$Moment" "holder" "[I", Cond.methodLink RX7 146 yX6_votesHeldBy, Cond.instanceMethod yX6_votesHeldBy]
def wsX7_officer_r2 : List Cond := [Cond.selects RX6 yX6_votesHeldBy yX6_votesHeldBy, Cond.code yX6_votesHeldBy cX6_votesHeldBy 2 (some .int), Cond.methodLink RX6 73 yX6_voices, Cond.instanceMethod yX6_voices, Cond.selects RX6 yX6_voices yX6_voices, Cond.code yX6_voices cX6_voices 1 (some .int), Cond.fieldLink RX6 44 "RegaliaVotes$Moment" "sick" "I", Cond.methodLink RX6 47 yX6_voicesIfSick, Cond.instanceMethod yX6_voicesIfSick, Cond.selects RX6 yX6_voicesIfSick yX6_voicesIfSick, Cond.code yX6_voicesIfSick cX6_voicesIfSick 2 (some .int), Cond.methodLink RX6 51 yX6_able, Cond.instanceMethod yX6_able, Cond.selects RX6 yX6_able yX6_able, Cond.code yX6_able cX6_able 4 (some .int), Cond.fieldLink RX6 25 "RegaliaVotes$Council" "sort" "[I", Cond.fieldLink RX6 29 "RegaliaVotes$Moment" "warmth" "[I", Cond.fieldLink RX6 34 "RegaliaVotes$Moment" "wash" "I", Cond.methodLink RX6 55 yX6_heldBy, Cond.methodLink RX6 70 yX6_votesOf, Cond.instanceMethod yX6_votesOf, Cond.selects RX6 yX6_votesOf yX6_votesOf, Cond.code yX6_votesOf cX6_votesOf 4 (some .int), Cond.fieldLink RX6 58 "RegaliaVotes$Council" "votes" "[I"]
def wsX7_officer : List Cond := .code yX7_officer cX7_officer 3 (some .int) :: ((wsX7_officer_r1 ++ wsX7_officer_r2) ++ wsX70 ++ wsX20 ++ wsX00 ++ wsX60)
def wsX7_noBill : List Cond := .code yX7_noBill cX7_noBill 1 (some .boolean) :: ([])
def wsX7_bill_r1 : List Cond := [Cond.fieldLink RX7 48 "RegaliaVotes" "vote" "LRegaliaVotes$Vote;", Cond.methodLink RX7 149 yX7_noBill, Cond.static yX7_noBill, Cond.initialized RX7, Cond.code yX7_noBill cX7_noBill 1 (some .boolean), Cond.methodLink RX7 133 yX6_voices, Cond.instanceMethod yX6_voices, Cond.selects RX6 yX6_voices yX6_voices, Cond.initialized RX6, Cond.code yX6_voices cX6_voices 1 (some .int), Cond.fieldLink RX6 15 "RegaliaVotes$Vote" "moment" "LRegaliaVotes$Moment;", Cond.fieldLink RX6 44 "RegaliaVotes$Moment" "sick" "I", Cond.methodLink RX6 47 yX6_voicesIfSick, Cond.instanceMethod yX6_voicesIfSick, Cond.selects RX6 yX6_voicesIfSick yX6_voicesIfSick, Cond.code yX6_voicesIfSick cX6_voicesIfSick 2 (some .int), Cond.methodLink RX6 51 yX6_able, Cond.instanceMethod yX6_able, Cond.selects RX6 yX6_able yX6_able, Cond.code yX6_able cX6_able 4 (some .int), Cond.fieldLink RX6 9 "RegaliaVotes$Vote" "told" "LRegaliaVotes$Council;", Cond.fieldLink RX6 19 "RegaliaVotes$Council" "things" "I", Cond.fieldLink RX6 25 "RegaliaVotes$Council" "sort" "[I", Cond.fieldLink RX6 29 "RegaliaVotes$Moment" "warmth" "[I"]
def wsX7_bill_r2 : List Cond := [Cond.fieldLink RX6 34 "RegaliaVotes$Moment" "wash" "I", Cond.methodLink RX6 55 yX6_heldBy, Cond.instanceMethod yX6_heldBy, Cond.selects RX6 yX6_heldBy yX6_heldBy, Cond.code yX6_heldBy cX6_heldBy 4 (some .int), Cond.fieldLink RX6 37 "RegaliaVotes$Moment" "holder" "[I", Cond.static yX7_bit, Cond.code yX7_bit cX7_bit 2 (some .int), Cond.methodLink RX7 152 yX6_yesOf, Cond.instanceMethod yX6_yesOf, Cond.selects RX6 yX6_yesOf yX6_yesOf, Cond.code yX6_yesOf cX6_yesOf 4 (some .int), Cond.fieldLink RX6 61 "RegaliaVotes$Council" "forBills" "[I", Cond.fieldLink RX6 64 "RegaliaVotes$Moment" "turned" "I", Cond.methodLink RX7 155 yX6_votesOf, Cond.instanceMethod yX6_votesOf, Cond.selects RX6 yX6_votesOf yX6_votesOf, Cond.code yX6_votesOf cX6_votesOf 4 (some .int), Cond.fieldLink RX6 58 "RegaliaVotes$Council" "votes" "[I", Cond.methodLink RX7 158 yX6_passesBy, Cond.instanceMethod yX6_passesBy, Cond.selects RX6 yX6_passesBy yX6_passesBy, Cond.code yX6_passesBy cX6_passesBy 3 (some .boolean), Cond.methodLink RX6 70 yX6_votesOf]
def wsX7_bill : List Cond := .code yX7_bill cX7_bill 5 (some .int) :: ((wsX7_bill_r1 ++ wsX7_bill_r2) ++ wsX70 ++ wsX60 ++ wsX20 ++ wsX00)
def wsX7_now_r1 : List Cond := [Cond.fieldLink RX7 39 "RegaliaVotes" "moment" "LRegaliaVotes$Moment;", Cond.fieldLink RX7 162 "RegaliaVotes$Moment" "put" "I", Cond.fieldLink RX7 165 "RegaliaVotes$Moment" "passed" "I", Cond.fieldLink RX7 48 "RegaliaVotes" "vote" "LRegaliaVotes$Vote;", Cond.fieldLink RX7 140 "RegaliaVotes$Moment" "sick" "I", Cond.fieldLink RX7 71 "RegaliaVotes" "past" "LRegaliaVotes$Past;", Cond.fieldLink RX7 171 "RegaliaVotes$Past" "known" "I", Cond.methodLink RX7 133 yX6_voices, Cond.instanceMethod yX6_voices, Cond.selects RX6 yX6_voices yX6_voices, Cond.initialized RX6, Cond.code yX6_voices cX6_voices 1 (some .int), Cond.fieldLink RX6 15 "RegaliaVotes$Vote" "moment" "LRegaliaVotes$Moment;", Cond.fieldLink RX6 44 "RegaliaVotes$Moment" "sick" "I", Cond.methodLink RX6 47 yX6_voicesIfSick, Cond.instanceMethod yX6_voicesIfSick, Cond.selects RX6 yX6_voicesIfSick yX6_voicesIfSick, Cond.code yX6_voicesIfSick cX6_voicesIfSick 2 (some .int), Cond.methodLink RX6 51 yX6_able, Cond.instanceMethod yX6_able, Cond.selects RX6 yX6_able yX6_able, Cond.code yX6_able cX6_able 4 (some .int), Cond.fieldLink RX6 9 "RegaliaVotes$Vote" "told" "LRegaliaVotes$Council;", Cond.fieldLink RX6 19 "RegaliaVotes$Council" "things" "I"]
def wsX7_now_r2 : List Cond := [Cond.fieldLink RX6 25 "RegaliaVotes$Council" "sort" "[I", Cond.fieldLink RX6 29 "RegaliaVotes$Moment" "warmth" "[I", Cond.fieldLink RX6 34 "RegaliaVotes$Moment" "wash" "I", Cond.methodLink RX6 55 yX6_heldBy, Cond.instanceMethod yX6_heldBy, Cond.selects RX6 yX6_heldBy yX6_heldBy, Cond.code yX6_heldBy cX6_heldBy 4 (some .int), Cond.fieldLink RX6 37 "RegaliaVotes$Moment" "holder" "[I", Cond.static yX7_bit, Cond.initialized RX7, Cond.code yX7_bit cX7_bit 2 (some .int), Cond.methodLink RX7 168 yX6_mostHolder, Cond.instanceMethod yX6_mostHolder, Cond.selects RX6 yX6_mostHolder yX6_mostHolder, Cond.code yX6_mostHolder cX6_mostHolder 5 (some .int), Cond.fieldLink RX6 83 "RegaliaVotes$Council" "officers" "I", Cond.methodLink RX6 80 yX6_votesHeldBy, Cond.instanceMethod yX6_votesHeldBy, Cond.selects RX6 yX6_votesHeldBy yX6_votesHeldBy, Cond.code yX6_votesHeldBy cX6_votesHeldBy 2 (some .int), Cond.methodLink RX6 73 yX6_voices, Cond.methodLink RX6 70 yX6_votesOf, Cond.instanceMethod yX6_votesOf, Cond.selects RX6 yX6_votesOf yX6_votesOf]
def wsX7_now_r3 : List Cond := [Cond.code yX6_votesOf cX6_votesOf 4 (some .int), Cond.fieldLink RX6 58 "RegaliaVotes$Council" "votes" "[I"]
def wsX7_now : List Cond := .code yX7_now cX7_now 2 (some .int) :: ((wsX7_now_r1 ++ (wsX7_now_r2 ++ wsX7_now_r3)) ++ wsX70 ++ wsX20 ++ wsX30 ++ wsX60 ++ wsX00)
def wsX7_puts_r1 : List Cond := [Cond.fieldLink RX7 39 "RegaliaVotes" "moment" "LRegaliaVotes$Moment;", Cond.fieldLink RX7 162 "RegaliaVotes$Moment" "put" "I", Cond.fieldLink RX7 71 "RegaliaVotes" "past" "LRegaliaVotes$Past;", Cond.fieldLink RX7 48 "RegaliaVotes" "vote" "LRegaliaVotes$Vote;", Cond.fieldLink RX7 165 "RegaliaVotes$Moment" "passed" "I", Cond.methodLink RX7 149 yX7_noBill, Cond.static yX7_noBill, Cond.initialized RX7, Cond.code yX7_noBill cX7_noBill 1 (some .boolean), Cond.methodLink RX7 174 yX3_remember, Cond.instanceMethod yX3_remember, Cond.selects RX3 yX3_remember yX3_remember, Cond.initialized RX3, Cond.code yX3_remember cX3_remember 2 none, Cond.fieldLink RX3 11 "RegaliaVotes$Past" "ring" "[LRegaliaVotes$Moment;", Cond.fieldLink RX3 17 "RegaliaVotes$Past" "next" "I", Cond.fieldLink RX3 21 "RegaliaVotes$Past" "known" "I", Cond.methodLink RX3 29 Lib.Math.min.name, Cond.static Lib.Math.min.name, Cond.initialized "java/lang/Math", Cond.code Lib.Math.min.name Lib.Math.min.code 2 (some .int), Cond.methodLink RX3 25 yX2_copyFrom, Cond.instanceMethod yX2_copyFrom, Cond.selects RX2 yX2_copyFrom yX2_copyFrom]
def wsX7_puts_r2 : List Cond := [Cond.initialized RX2, Cond.code yX2_copyFrom cX2_copyFrom 2 none, Cond.fieldLink RX2 9 "RegaliaVotes$Moment" "holder" "[I", Cond.methodLink RX2 39 arraycopyName, Cond.native arraycopyName, Cond.static arraycopyName, Cond.initialized "java/lang/System", Cond.fieldLink RX2 15 "RegaliaVotes$Moment" "warmth" "[I", Cond.fieldLink RX2 18 "RegaliaVotes$Moment" "wash" "I", Cond.fieldLink RX2 22 "RegaliaVotes$Moment" "turned" "I", Cond.fieldLink RX2 25 "RegaliaVotes$Moment" "sick" "I", Cond.fieldLink RX2 28 "RegaliaVotes$Moment" "put" "I", Cond.fieldLink RX2 31 "RegaliaVotes$Moment" "passed" "I", Cond.methodLink RX7 178 yX6_passes, Cond.instanceMethod yX6_passes, Cond.selects RX6 yX6_passes yX6_passes, Cond.initialized RX6, Cond.code yX6_passes cX6_passes 2 (some .boolean), Cond.methodLink RX6 73 yX6_voices, Cond.instanceMethod yX6_voices, Cond.selects RX6 yX6_voices yX6_voices, Cond.code yX6_voices cX6_voices 1 (some .int), Cond.fieldLink RX6 15 "RegaliaVotes$Vote" "moment" "LRegaliaVotes$Moment;", Cond.fieldLink RX6 44 "RegaliaVotes$Moment" "sick" "I"]
def wsX7_puts_r3 : List Cond := [Cond.methodLink RX6 47 yX6_voicesIfSick, Cond.instanceMethod yX6_voicesIfSick, Cond.selects RX6 yX6_voicesIfSick yX6_voicesIfSick, Cond.code yX6_voicesIfSick cX6_voicesIfSick 2 (some .int), Cond.methodLink RX6 51 yX6_able, Cond.instanceMethod yX6_able, Cond.selects RX6 yX6_able yX6_able, Cond.code yX6_able cX6_able 4 (some .int), Cond.fieldLink RX6 9 "RegaliaVotes$Vote" "told" "LRegaliaVotes$Council;", Cond.fieldLink RX6 19 "RegaliaVotes$Council" "things" "I", Cond.fieldLink RX6 25 "RegaliaVotes$Council" "sort" "[I", Cond.fieldLink RX6 29 "RegaliaVotes$Moment" "warmth" "[I", Cond.fieldLink RX6 34 "RegaliaVotes$Moment" "wash" "I", Cond.methodLink RX6 55 yX6_heldBy, Cond.instanceMethod yX6_heldBy, Cond.selects RX6 yX6_heldBy yX6_heldBy, Cond.code yX6_heldBy cX6_heldBy 4 (some .int), Cond.fieldLink RX6 37 "RegaliaVotes$Moment" "holder" "[I", Cond.static yX7_bit, Cond.code yX7_bit cX7_bit 2 (some .int), Cond.methodLink RX6 67 yX6_yesOf, Cond.instanceMethod yX6_yesOf, Cond.selects RX6 yX6_yesOf yX6_yesOf, Cond.code yX6_yesOf cX6_yesOf 4 (some .int)]
def wsX7_puts_r4 : List Cond := [Cond.fieldLink RX6 61 "RegaliaVotes$Council" "forBills" "[I", Cond.fieldLink RX6 64 "RegaliaVotes$Moment" "turned" "I", Cond.methodLink RX6 76 yX6_passesBy, Cond.instanceMethod yX6_passesBy, Cond.selects RX6 yX6_passesBy yX6_passesBy, Cond.code yX6_passesBy cX6_passesBy 3 (some .boolean), Cond.methodLink RX6 70 yX6_votesOf, Cond.instanceMethod yX6_votesOf, Cond.selects RX6 yX6_votesOf yX6_votesOf, Cond.code yX6_votesOf cX6_votesOf 4 (some .int), Cond.fieldLink RX6 58 "RegaliaVotes$Council" "votes" "[I", Cond.methodLink RX7 181 yX2_cool, Cond.instanceMethod yX2_cool, Cond.selects RX2 yX2_cool yX2_cool, Cond.code yX2_cool cX2_cool 2 none]
def wsX7_puts : List Cond := .code yX7_puts cX7_puts 3 (some .int) :: ((wsX7_puts_r1 ++ (wsX7_puts_r2 ++ (wsX7_puts_r3 ++ wsX7_puts_r4))) ++ wsX70 ++ wsX20 ++ wsX30 ++ wsX60 ++ wsX00)
def wsX7_hands_r1 : List Cond := [Cond.fieldLink RX7 71 "RegaliaVotes" "past" "LRegaliaVotes$Past;", Cond.fieldLink RX7 39 "RegaliaVotes" "moment" "LRegaliaVotes$Moment;", Cond.fieldLink RX7 117 "RegaliaVotes$Moment" "holder" "[I", Cond.methodLink RX7 103 yX7_noThing, Cond.instanceMethod yX7_noThing, Cond.selects RX7 yX7_noThing yX7_noThing, Cond.initialized RX7, Cond.code yX7_noThing cX7_noThing 2 (some .boolean), Cond.fieldLink RX7 20 "RegaliaVotes" "told" "LRegaliaVotes$Council;", Cond.fieldLink RX7 274 "RegaliaVotes$Council" "things" "I", Cond.methodLink RX7 137 yX7_noOfficer, Cond.instanceMethod yX7_noOfficer, Cond.selects RX7 yX7_noOfficer yX7_noOfficer, Cond.code yX7_noOfficer cX7_noOfficer 2 (some .boolean), Cond.fieldLink RX7 277 "RegaliaVotes$Council" "officers" "I", Cond.methodLink RX7 174 yX3_remember, Cond.instanceMethod yX3_remember, Cond.selects RX3 yX3_remember yX3_remember, Cond.initialized RX3, Cond.code yX3_remember cX3_remember 2 none, Cond.fieldLink RX3 11 "RegaliaVotes$Past" "ring" "[LRegaliaVotes$Moment;", Cond.fieldLink RX3 17 "RegaliaVotes$Past" "next" "I", Cond.fieldLink RX3 21 "RegaliaVotes$Past" "known" "I", Cond.methodLink RX3 29 Lib.Math.min.name]
def wsX7_hands_r2 : List Cond := [Cond.static Lib.Math.min.name, Cond.initialized "java/lang/Math", Cond.code Lib.Math.min.name Lib.Math.min.code 2 (some .int), Cond.methodLink RX3 25 yX2_copyFrom, Cond.instanceMethod yX2_copyFrom, Cond.selects RX2 yX2_copyFrom yX2_copyFrom, Cond.initialized RX2, Cond.code yX2_copyFrom cX2_copyFrom 2 none, Cond.fieldLink RX2 9 "RegaliaVotes$Moment" "holder" "[I", Cond.methodLink RX2 39 arraycopyName, Cond.native arraycopyName, Cond.static arraycopyName, Cond.initialized "java/lang/System", Cond.fieldLink RX2 15 "RegaliaVotes$Moment" "warmth" "[I", Cond.fieldLink RX2 18 "RegaliaVotes$Moment" "wash" "I", Cond.fieldLink RX2 22 "RegaliaVotes$Moment" "turned" "I", Cond.fieldLink RX2 25 "RegaliaVotes$Moment" "sick" "I", Cond.fieldLink RX2 28 "RegaliaVotes$Moment" "put" "I", Cond.fieldLink RX2 31 "RegaliaVotes$Moment" "passed" "I"]
def wsX7_hands : List Cond := .code yX7_hands cX7_hands 4 (some .int) :: ((wsX7_hands_r1 ++ wsX7_hands_r2) ++ wsX70 ++ wsX20 ++ wsX00 ++ wsX30)
def wsX7_washes_r1 : List Cond := [Cond.fieldLink RX7 39 "RegaliaVotes" "moment" "LRegaliaVotes$Moment;", Cond.fieldLink RX7 120 "RegaliaVotes$Moment" "wash" "I", Cond.fieldLink RX7 71 "RegaliaVotes" "past" "LRegaliaVotes$Past;", Cond.methodLink RX7 103 yX7_noThing, Cond.instanceMethod yX7_noThing, Cond.selects RX7 yX7_noThing yX7_noThing, Cond.initialized RX7, Cond.code yX7_noThing cX7_noThing 2 (some .boolean), Cond.fieldLink RX7 20 "RegaliaVotes" "told" "LRegaliaVotes$Council;", Cond.fieldLink RX7 274 "RegaliaVotes$Council" "things" "I", Cond.methodLink RX7 123 yX7_bit, Cond.static yX7_bit, Cond.code yX7_bit cX7_bit 2 (some .int), Cond.methodLink RX7 174 yX3_remember, Cond.instanceMethod yX3_remember, Cond.selects RX3 yX3_remember yX3_remember, Cond.initialized RX3, Cond.code yX3_remember cX3_remember 2 none, Cond.fieldLink RX3 11 "RegaliaVotes$Past" "ring" "[LRegaliaVotes$Moment;", Cond.fieldLink RX3 17 "RegaliaVotes$Past" "next" "I", Cond.fieldLink RX3 21 "RegaliaVotes$Past" "known" "I", Cond.methodLink RX3 29 Lib.Math.min.name, Cond.static Lib.Math.min.name, Cond.initialized "java/lang/Math"]
def wsX7_washes_r2 : List Cond := [Cond.code Lib.Math.min.name Lib.Math.min.code 2 (some .int), Cond.methodLink RX3 25 yX2_copyFrom, Cond.instanceMethod yX2_copyFrom, Cond.selects RX2 yX2_copyFrom yX2_copyFrom, Cond.initialized RX2, Cond.code yX2_copyFrom cX2_copyFrom 2 none, Cond.fieldLink RX2 9 "RegaliaVotes$Moment" "holder" "[I", Cond.methodLink RX2 39 arraycopyName, Cond.native arraycopyName, Cond.static arraycopyName, Cond.initialized "java/lang/System", Cond.fieldLink RX2 15 "RegaliaVotes$Moment" "warmth" "[I", Cond.fieldLink RX2 18 "RegaliaVotes$Moment" "wash" "I", Cond.fieldLink RX2 22 "RegaliaVotes$Moment" "turned" "I", Cond.fieldLink RX2 25 "RegaliaVotes$Moment" "sick" "I", Cond.fieldLink RX2 28 "RegaliaVotes$Moment" "put" "I", Cond.fieldLink RX2 31 "RegaliaVotes$Moment" "passed" "I", Cond.methodLink RX7 184 yJ6_bitCount_0f7a4, Cond.static yJ6_bitCount_0f7a4, Cond.initialized RJ6, Cond.code yJ6_bitCount_0f7a4 cJ6_bitCount_0f7a4 1 (some .int), Cond.constant RJ6 265 (1431655765), Cond.constant RJ6 266 (858993459), Cond.constant RJ6 267 (252645135)]
def wsX7_washes : List Cond := .code yX7_washes cX7_washes 2 (some .int) :: ((wsX7_washes_r1 ++ wsX7_washes_r2) ++ wsX70 ++ wsX20 ++ wsX00 ++ wsX30)
def wsX7_hangs_r1 : List Cond := [Cond.fieldLink RX7 39 "RegaliaVotes" "moment" "LRegaliaVotes$Moment;", Cond.fieldLink RX7 120 "RegaliaVotes$Moment" "wash" "I", Cond.fieldLink RX7 71 "RegaliaVotes" "past" "LRegaliaVotes$Past;", Cond.fieldLink RX7 20 "RegaliaVotes" "told" "LRegaliaVotes$Council;", Cond.fieldLink RX7 107 "RegaliaVotes$Council" "sort" "[I", Cond.fieldLink RX7 127 "RegaliaVotes$Moment" "turned" "I", Cond.methodLink RX7 103 yX7_noThing, Cond.instanceMethod yX7_noThing, Cond.selects RX7 yX7_noThing yX7_noThing, Cond.initialized RX7, Cond.code yX7_noThing cX7_noThing 2 (some .boolean), Cond.fieldLink RX7 274 "RegaliaVotes$Council" "things" "I", Cond.methodLink RX7 123 yX7_bit, Cond.static yX7_bit, Cond.code yX7_bit cX7_bit 2 (some .int), Cond.methodLink RX7 174 yX3_remember, Cond.instanceMethod yX3_remember, Cond.selects RX3 yX3_remember yX3_remember, Cond.initialized RX3, Cond.code yX3_remember cX3_remember 2 none, Cond.fieldLink RX3 11 "RegaliaVotes$Past" "ring" "[LRegaliaVotes$Moment;", Cond.fieldLink RX3 17 "RegaliaVotes$Past" "next" "I", Cond.fieldLink RX3 21 "RegaliaVotes$Past" "known" "I", Cond.methodLink RX3 29 Lib.Math.min.name]
def wsX7_hangs_r2 : List Cond := [Cond.static Lib.Math.min.name, Cond.initialized "java/lang/Math", Cond.code Lib.Math.min.name Lib.Math.min.code 2 (some .int), Cond.methodLink RX3 25 yX2_copyFrom, Cond.instanceMethod yX2_copyFrom, Cond.selects RX2 yX2_copyFrom yX2_copyFrom, Cond.initialized RX2, Cond.code yX2_copyFrom cX2_copyFrom 2 none, Cond.fieldLink RX2 9 "RegaliaVotes$Moment" "holder" "[I", Cond.methodLink RX2 39 arraycopyName, Cond.native arraycopyName, Cond.static arraycopyName, Cond.initialized "java/lang/System", Cond.fieldLink RX2 15 "RegaliaVotes$Moment" "warmth" "[I", Cond.fieldLink RX2 18 "RegaliaVotes$Moment" "wash" "I", Cond.fieldLink RX2 22 "RegaliaVotes$Moment" "turned" "I", Cond.fieldLink RX2 25 "RegaliaVotes$Moment" "sick" "I", Cond.fieldLink RX2 28 "RegaliaVotes$Moment" "put" "I", Cond.fieldLink RX2 31 "RegaliaVotes$Moment" "passed" "I"]
def wsX7_hangs : List Cond := .code yX7_hangs cX7_hangs 2 (some .int) :: ((wsX7_hangs_r1 ++ wsX7_hangs_r2) ++ wsX70 ++ wsX20 ++ wsX00 ++ wsX30)
def wsX7_warms_r1 : List Cond := [Cond.fieldLink RX7 20 "RegaliaVotes" "told" "LRegaliaVotes$Council;", Cond.fieldLink RX7 107 "RegaliaVotes$Council" "sort" "[I", Cond.fieldLink RX7 71 "RegaliaVotes" "past" "LRegaliaVotes$Past;", Cond.fieldLink RX7 39 "RegaliaVotes" "moment" "LRegaliaVotes$Moment;", Cond.fieldLink RX7 130 "RegaliaVotes$Moment" "warmth" "[I", Cond.fieldLink RX7 189 "RegaliaVotes$Council" "warmth" "I", Cond.methodLink RX7 103 yX7_noThing, Cond.instanceMethod yX7_noThing, Cond.selects RX7 yX7_noThing yX7_noThing, Cond.initialized RX7, Cond.code yX7_noThing cX7_noThing 2 (some .boolean), Cond.fieldLink RX7 274 "RegaliaVotes$Council" "things" "I", Cond.methodLink RX7 174 yX3_remember, Cond.instanceMethod yX3_remember, Cond.selects RX3 yX3_remember yX3_remember, Cond.initialized RX3, Cond.code yX3_remember cX3_remember 2 none, Cond.fieldLink RX3 11 "RegaliaVotes$Past" "ring" "[LRegaliaVotes$Moment;", Cond.fieldLink RX3 17 "RegaliaVotes$Past" "next" "I", Cond.fieldLink RX3 21 "RegaliaVotes$Past" "known" "I", Cond.methodLink RX3 29 Lib.Math.min.name, Cond.static Lib.Math.min.name, Cond.initialized "java/lang/Math", Cond.code Lib.Math.min.name Lib.Math.min.code 2 (some .int)]
def wsX7_warms_r2 : List Cond := [Cond.methodLink RX3 25 yX2_copyFrom, Cond.instanceMethod yX2_copyFrom, Cond.selects RX2 yX2_copyFrom yX2_copyFrom, Cond.initialized RX2, Cond.code yX2_copyFrom cX2_copyFrom 2 none, Cond.fieldLink RX2 9 "RegaliaVotes$Moment" "holder" "[I", Cond.methodLink RX2 39 arraycopyName, Cond.native arraycopyName, Cond.static arraycopyName, Cond.initialized "java/lang/System", Cond.fieldLink RX2 15 "RegaliaVotes$Moment" "warmth" "[I", Cond.fieldLink RX2 18 "RegaliaVotes$Moment" "wash" "I", Cond.fieldLink RX2 22 "RegaliaVotes$Moment" "turned" "I", Cond.fieldLink RX2 25 "RegaliaVotes$Moment" "sick" "I", Cond.fieldLink RX2 28 "RegaliaVotes$Moment" "put" "I", Cond.fieldLink RX2 31 "RegaliaVotes$Moment" "passed" "I"]
def wsX7_warms : List Cond := .code yX7_warms cX7_warms 3 (some .int) :: ((wsX7_warms_r1 ++ wsX7_warms_r2) ++ wsX70 ++ wsX00 ++ wsX20 ++ wsX30)
def wsX7_sickens_r1 : List Cond := [Cond.fieldLink RX7 71 "RegaliaVotes" "past" "LRegaliaVotes$Past;", Cond.fieldLink RX7 39 "RegaliaVotes" "moment" "LRegaliaVotes$Moment;", Cond.fieldLink RX7 140 "RegaliaVotes$Moment" "sick" "I", Cond.methodLink RX7 137 yX7_noOfficer, Cond.instanceMethod yX7_noOfficer, Cond.selects RX7 yX7_noOfficer yX7_noOfficer, Cond.initialized RX7, Cond.code yX7_noOfficer cX7_noOfficer 2 (some .boolean), Cond.fieldLink RX7 20 "RegaliaVotes" "told" "LRegaliaVotes$Council;", Cond.fieldLink RX7 277 "RegaliaVotes$Council" "officers" "I", Cond.methodLink RX7 174 yX3_remember, Cond.instanceMethod yX3_remember, Cond.selects RX3 yX3_remember yX3_remember, Cond.initialized RX3, Cond.code yX3_remember cX3_remember 2 none, Cond.fieldLink RX3 11 "RegaliaVotes$Past" "ring" "[LRegaliaVotes$Moment;", Cond.fieldLink RX3 17 "RegaliaVotes$Past" "next" "I", Cond.fieldLink RX3 21 "RegaliaVotes$Past" "known" "I", Cond.methodLink RX3 29 Lib.Math.min.name, Cond.static Lib.Math.min.name, Cond.initialized "java/lang/Math", Cond.code Lib.Math.min.name Lib.Math.min.code 2 (some .int), Cond.methodLink RX3 25 yX2_copyFrom, Cond.instanceMethod yX2_copyFrom]
def wsX7_sickens_r2 : List Cond := [Cond.selects RX2 yX2_copyFrom yX2_copyFrom, Cond.initialized RX2, Cond.code yX2_copyFrom cX2_copyFrom 2 none, Cond.fieldLink RX2 9 "RegaliaVotes$Moment" "holder" "[I", Cond.methodLink RX2 39 arraycopyName, Cond.native arraycopyName, Cond.static arraycopyName, Cond.initialized "java/lang/System", Cond.fieldLink RX2 15 "RegaliaVotes$Moment" "warmth" "[I", Cond.fieldLink RX2 18 "RegaliaVotes$Moment" "wash" "I", Cond.fieldLink RX2 22 "RegaliaVotes$Moment" "turned" "I", Cond.fieldLink RX2 25 "RegaliaVotes$Moment" "sick" "I", Cond.fieldLink RX2 28 "RegaliaVotes$Moment" "put" "I", Cond.fieldLink RX2 31 "RegaliaVotes$Moment" "passed" "I", Cond.methodLink RX7 123 yX7_bit, Cond.static yX7_bit, Cond.code yX7_bit cX7_bit 2 (some .int)]
def wsX7_sickens : List Cond := .code yX7_sickens cX7_sickens 4 (some .int) :: ((wsX7_sickens_r1 ++ wsX7_sickens_r2) ++ wsX70 ++ wsX20 ++ wsX00 ++ wsX30)
def wsX7_undo_r1 : List Cond := [Cond.fieldLink RX7 71 "RegaliaVotes" "past" "LRegaliaVotes$Past;", Cond.fieldLink RX7 171 "RegaliaVotes$Past" "known" "I", Cond.fieldLink RX7 39 "RegaliaVotes" "moment" "LRegaliaVotes$Moment;", Cond.methodLink RX7 191 yX3_recall, Cond.instanceMethod yX3_recall, Cond.selects RX3 yX3_recall yX3_recall, Cond.initialized RX3, Cond.code yX3_recall cX3_recall 2 none, Cond.fieldLink RX3 21 "RegaliaVotes$Past" "known" "I", Cond.fieldLink RX3 17 "RegaliaVotes$Past" "next" "I", Cond.fieldLink RX3 11 "RegaliaVotes$Past" "ring" "[LRegaliaVotes$Moment;", Cond.methodLink RX3 25 yX2_copyFrom, Cond.instanceMethod yX2_copyFrom, Cond.selects RX2 yX2_copyFrom yX2_copyFrom, Cond.initialized RX2, Cond.code yX2_copyFrom cX2_copyFrom 2 none, Cond.fieldLink RX2 9 "RegaliaVotes$Moment" "holder" "[I", Cond.methodLink RX2 39 arraycopyName, Cond.native arraycopyName, Cond.static arraycopyName, Cond.initialized "java/lang/System", Cond.fieldLink RX2 15 "RegaliaVotes$Moment" "warmth" "[I", Cond.fieldLink RX2 18 "RegaliaVotes$Moment" "wash" "I", Cond.fieldLink RX2 22 "RegaliaVotes$Moment" "turned" "I"]
def wsX7_undo_r2 : List Cond := [Cond.fieldLink RX2 25 "RegaliaVotes$Moment" "sick" "I", Cond.fieldLink RX2 28 "RegaliaVotes$Moment" "put" "I", Cond.fieldLink RX2 31 "RegaliaVotes$Moment" "passed" "I"]
def wsX7_undo : List Cond := .code yX7_undo cX7_undo 1 (some .int) :: ((wsX7_undo_r1 ++ wsX7_undo_r2) ++ wsX70 ++ wsX30 ++ wsX20)
def wsX7_noTerm : List Cond := .code yX7_noTerm cX7_noTerm 1 (some .boolean) :: ([])
def wsX7_commonDivisor : List Cond := .code yX7_commonDivisor cX7_commonDivisor 6 (some .int) :: ([])
def wsX7_term : List Cond := .code yX7_term cX7_term 4 (some .int) :: ([.methodLink RX7 290 yX7_commonDivisor, .static yX7_commonDivisor, .initialized RX7, .code yX7_commonDivisor cX7_commonDivisor 6 (some .int)])
def wsX7_power_r1 : List Cond := [Cond.fieldLink RX7 57 "RegaliaVotes" "powers" "LRegaliaVotes$Power;", Cond.fieldLink RX7 48 "RegaliaVotes" "vote" "LRegaliaVotes$Vote;", Cond.methodLink RX7 103 yX7_noThing, Cond.instanceMethod yX7_noThing, Cond.selects RX7 yX7_noThing yX7_noThing, Cond.initialized RX7, Cond.code yX7_noThing cX7_noThing 2 (some .boolean), Cond.fieldLink RX7 20 "RegaliaVotes" "told" "LRegaliaVotes$Council;", Cond.fieldLink RX7 274 "RegaliaVotes$Council" "things" "I", Cond.methodLink RX7 194 yX7_noTerm, Cond.static yX7_noTerm, Cond.code yX7_noTerm cX7_noTerm 1 (some .boolean), Cond.methodLink RX7 133 yX6_voices, Cond.instanceMethod yX6_voices, Cond.selects RX6 yX6_voices yX6_voices, Cond.initialized RX6, Cond.code yX6_voices cX6_voices 1 (some .int), Cond.fieldLink RX6 15 "RegaliaVotes$Vote" "moment" "LRegaliaVotes$Moment;", Cond.fieldLink RX6 44 "RegaliaVotes$Moment" "sick" "I", Cond.methodLink RX6 47 yX6_voicesIfSick, Cond.instanceMethod yX6_voicesIfSick, Cond.selects RX6 yX6_voicesIfSick yX6_voicesIfSick, Cond.code yX6_voicesIfSick cX6_voicesIfSick 2 (some .int), Cond.methodLink RX6 51 yX6_able]
def wsX7_power_r2 : List Cond := [Cond.instanceMethod yX6_able, Cond.selects RX6 yX6_able yX6_able, Cond.code yX6_able cX6_able 4 (some .int), Cond.fieldLink RX6 9 "RegaliaVotes$Vote" "told" "LRegaliaVotes$Council;", Cond.fieldLink RX6 19 "RegaliaVotes$Council" "things" "I", Cond.fieldLink RX6 25 "RegaliaVotes$Council" "sort" "[I", Cond.fieldLink RX6 29 "RegaliaVotes$Moment" "warmth" "[I", Cond.fieldLink RX6 34 "RegaliaVotes$Moment" "wash" "I", Cond.methodLink RX6 55 yX6_heldBy, Cond.instanceMethod yX6_heldBy, Cond.selects RX6 yX6_heldBy yX6_heldBy, Cond.code yX6_heldBy cX6_heldBy 4 (some .int), Cond.fieldLink RX6 37 "RegaliaVotes$Moment" "holder" "[I", Cond.static yX7_bit, Cond.code yX7_bit cX7_bit 2 (some .int), Cond.methodLink RX7 197 yX4_ordersDecided, Cond.instanceMethod yX4_ordersDecided, Cond.selects RX4 yX4_ordersDecided yX4_ordersDecided, Cond.initialized RX4, Cond.code yX4_ordersDecided cX4_ordersDecided 7 (some .int), Cond.static yX7_isWithin, Cond.code yX7_isWithin cX7_isWithin 2 (some .boolean), Cond.methodLink RX4 41 yX4_carries, Cond.instanceMethod yX4_carries]
def wsX7_power_r3 : List Cond := [Cond.selects RX4 yX4_carries yX4_carries, Cond.code yX4_carries cX4_carries 3 (some .boolean), Cond.fieldLink RX4 9 "RegaliaVotes$Power" "vote" "LRegaliaVotes$Vote;", Cond.methodLink RX4 19 yX6_votesOf, Cond.instanceMethod yX6_votesOf, Cond.selects RX6 yX6_votesOf yX6_votesOf, Cond.code yX6_votesOf cX6_votesOf 4 (some .int), Cond.fieldLink RX6 58 "RegaliaVotes$Council" "votes" "[I", Cond.methodLink RX4 29 yJ6_bitCount_0f7a4, Cond.static yJ6_bitCount_0f7a4, Cond.initialized RJ6, Cond.code yJ6_bitCount_0f7a4 cJ6_bitCount_0f7a4 1 (some .int), Cond.constant RJ6 265 (1431655765), Cond.constant RJ6 266 (858993459), Cond.constant RJ6 267 (252645135), Cond.methodLink RX4 34 yX4_ordersOf, Cond.static yX4_ordersOf, Cond.code yX4_ordersOf cX4_ordersOf 1 (some .int), Cond.fieldLink RX4 15 "RegaliaVotes$Power" "FACTORIAL" "[I", Cond.methodLink RX7 200 yX4_orders, Cond.instanceMethod yX4_orders, Cond.selects RX4 yX4_orders yX4_orders, Cond.code yX4_orders cX4_orders 1 (some .int), Cond.methodLink RX4 25 yX6_voices]
def wsX7_power_r4 : List Cond := [Cond.methodLink RX7 203 yX7_term, Cond.static yX7_term, Cond.code yX7_term cX7_term 4 (some .int), Cond.methodLink RX7 290 yX7_commonDivisor, Cond.static yX7_commonDivisor, Cond.code yX7_commonDivisor cX7_commonDivisor 6 (some .int)]
def wsX7_power : List Cond := .code yX7_power cX7_power 3 (some .int) :: ((wsX7_power_r1 ++ (wsX7_power_r2 ++ (wsX7_power_r3 ++ wsX7_power_r4))) ++ wsX70 ++ wsX00 ++ wsX60 ++ wsX20 ++ wsX40)
def wsX7_least_r1 : List Cond := [Cond.fieldLink RX7 57 "RegaliaVotes" "powers" "LRegaliaVotes$Power;", Cond.methodLink RX7 194 yX7_noTerm, Cond.static yX7_noTerm, Cond.initialized RX7, Cond.code yX7_noTerm cX7_noTerm 1 (some .boolean), Cond.methodLink RX7 207 yX4_leastSets, Cond.instanceMethod yX4_leastSets, Cond.selects RX4 yX4_leastSets yX4_leastSets, Cond.initialized RX4, Cond.code yX4_leastSets cX4_leastSets 4 (some .int), Cond.fieldLink RX4 9 "RegaliaVotes$Power" "vote" "LRegaliaVotes$Vote;", Cond.methodLink RX4 25 yX6_voices, Cond.instanceMethod yX6_voices, Cond.selects RX6 yX6_voices yX6_voices, Cond.initialized RX6, Cond.code yX6_voices cX6_voices 1 (some .int), Cond.fieldLink RX6 15 "RegaliaVotes$Vote" "moment" "LRegaliaVotes$Moment;", Cond.fieldLink RX6 44 "RegaliaVotes$Moment" "sick" "I", Cond.methodLink RX6 47 yX6_voicesIfSick, Cond.instanceMethod yX6_voicesIfSick, Cond.selects RX6 yX6_voicesIfSick yX6_voicesIfSick, Cond.code yX6_voicesIfSick cX6_voicesIfSick 2 (some .int), Cond.methodLink RX6 51 yX6_able, Cond.instanceMethod yX6_able]
def wsX7_least_r2 : List Cond := [Cond.selects RX6 yX6_able yX6_able, Cond.code yX6_able cX6_able 4 (some .int), Cond.fieldLink RX6 9 "RegaliaVotes$Vote" "told" "LRegaliaVotes$Council;", Cond.fieldLink RX6 19 "RegaliaVotes$Council" "things" "I", Cond.fieldLink RX6 25 "RegaliaVotes$Council" "sort" "[I", Cond.fieldLink RX6 29 "RegaliaVotes$Moment" "warmth" "[I", Cond.fieldLink RX6 34 "RegaliaVotes$Moment" "wash" "I", Cond.methodLink RX6 55 yX6_heldBy, Cond.instanceMethod yX6_heldBy, Cond.selects RX6 yX6_heldBy yX6_heldBy, Cond.code yX6_heldBy cX6_heldBy 4 (some .int), Cond.fieldLink RX6 37 "RegaliaVotes$Moment" "holder" "[I", Cond.static yX7_bit, Cond.code yX7_bit cX7_bit 2 (some .int), Cond.methodLink RX4 51 yX4_isLeast, Cond.instanceMethod yX4_isLeast, Cond.selects RX4 yX4_isLeast yX4_isLeast, Cond.code yX4_isLeast cX4_isLeast 4 (some .boolean), Cond.static yX7_isWithin, Cond.code yX7_isWithin cX7_isWithin 2 (some .boolean), Cond.methodLink RX4 41 yX4_carries, Cond.instanceMethod yX4_carries, Cond.selects RX4 yX4_carries yX4_carries, Cond.code yX4_carries cX4_carries 3 (some .boolean)]
def wsX7_least_r3 : List Cond := [Cond.methodLink RX4 19 yX6_votesOf, Cond.instanceMethod yX6_votesOf, Cond.selects RX6 yX6_votesOf yX6_votesOf, Cond.code yX6_votesOf cX6_votesOf 4 (some .int), Cond.fieldLink RX6 58 "RegaliaVotes$Council" "votes" "[I", Cond.methodLink RX7 210 yX4_firstLeastSet, Cond.instanceMethod yX4_firstLeastSet, Cond.selects RX4 yX4_firstLeastSet yX4_firstLeastSet, Cond.code yX4_firstLeastSet cX4_firstLeastSet 3 (some .int)]
def wsX7_least : List Cond := .code yX7_least cX7_least 2 (some .int) :: ((wsX7_least_r1 ++ (wsX7_least_r2 ++ wsX7_least_r3)) ++ wsX70 ++ wsX40 ++ wsX60 ++ wsX20 ++ wsX00)
def wsX7_dummies_r1 : List Cond := [Cond.fieldLink RX7 57 "RegaliaVotes" "powers" "LRegaliaVotes$Power;", Cond.methodLink RX7 213 yX4_powerless, Cond.instanceMethod yX4_powerless, Cond.selects RX4 yX4_powerless yX4_powerless, Cond.initialized RX4, Cond.code yX4_powerless cX4_powerless 4 (some .int), Cond.fieldLink RX4 9 "RegaliaVotes$Power" "vote" "LRegaliaVotes$Vote;", Cond.methodLink RX4 25 yX6_voices, Cond.instanceMethod yX6_voices, Cond.selects RX6 yX6_voices yX6_voices, Cond.initialized RX6, Cond.code yX6_voices cX6_voices 1 (some .int), Cond.fieldLink RX6 15 "RegaliaVotes$Vote" "moment" "LRegaliaVotes$Moment;", Cond.fieldLink RX6 44 "RegaliaVotes$Moment" "sick" "I", Cond.methodLink RX6 47 yX6_voicesIfSick, Cond.instanceMethod yX6_voicesIfSick, Cond.selects RX6 yX6_voicesIfSick yX6_voicesIfSick, Cond.code yX6_voicesIfSick cX6_voicesIfSick 2 (some .int), Cond.methodLink RX6 51 yX6_able, Cond.instanceMethod yX6_able, Cond.selects RX6 yX6_able yX6_able, Cond.code yX6_able cX6_able 4 (some .int), Cond.fieldLink RX6 9 "RegaliaVotes$Vote" "told" "LRegaliaVotes$Council;", Cond.fieldLink RX6 19 "RegaliaVotes$Council" "things" "I"]
def wsX7_dummies_r2 : List Cond := [Cond.fieldLink RX6 25 "RegaliaVotes$Council" "sort" "[I", Cond.fieldLink RX6 29 "RegaliaVotes$Moment" "warmth" "[I", Cond.fieldLink RX6 34 "RegaliaVotes$Moment" "wash" "I", Cond.methodLink RX6 55 yX6_heldBy, Cond.instanceMethod yX6_heldBy, Cond.selects RX6 yX6_heldBy yX6_heldBy, Cond.code yX6_heldBy cX6_heldBy 4 (some .int), Cond.fieldLink RX6 37 "RegaliaVotes$Moment" "holder" "[I", Cond.static yX7_bit, Cond.initialized RX7, Cond.code yX7_bit cX7_bit 2 (some .int), Cond.methodLink RX4 48 yX4_ordersDecided, Cond.instanceMethod yX4_ordersDecided, Cond.selects RX4 yX4_ordersDecided yX4_ordersDecided, Cond.code yX4_ordersDecided cX4_ordersDecided 7 (some .int), Cond.static yX7_isWithin, Cond.code yX7_isWithin cX7_isWithin 2 (some .boolean), Cond.methodLink RX4 41 yX4_carries, Cond.instanceMethod yX4_carries, Cond.selects RX4 yX4_carries yX4_carries, Cond.code yX4_carries cX4_carries 3 (some .boolean), Cond.methodLink RX4 19 yX6_votesOf, Cond.instanceMethod yX6_votesOf, Cond.selects RX6 yX6_votesOf yX6_votesOf]
def wsX7_dummies_r3 : List Cond := [Cond.code yX6_votesOf cX6_votesOf 4 (some .int), Cond.fieldLink RX6 58 "RegaliaVotes$Council" "votes" "[I", Cond.methodLink RX4 29 yJ6_bitCount_0f7a4, Cond.static yJ6_bitCount_0f7a4, Cond.initialized RJ6, Cond.code yJ6_bitCount_0f7a4 cJ6_bitCount_0f7a4 1 (some .int), Cond.constant RJ6 265 (1431655765), Cond.constant RJ6 266 (858993459), Cond.constant RJ6 267 (252645135), Cond.methodLink RX4 34 yX4_ordersOf, Cond.static yX4_ordersOf, Cond.code yX4_ordersOf cX4_ordersOf 1 (some .int), Cond.fieldLink RX4 15 "RegaliaVotes$Power" "FACTORIAL" "[I"]
def wsX7_dummies : List Cond := .code yX7_dummies cX7_dummies 1 (some .int) :: ((wsX7_dummies_r1 ++ (wsX7_dummies_r2 ++ wsX7_dummies_r3)) ++ wsX70 ++ wsX40 ++ wsX60 ++ wsX20 ++ wsX00)
def wsX7_sways_r1 : List Cond := [Cond.fieldLink RX7 48 "RegaliaVotes" "vote" "LRegaliaVotes$Vote;", Cond.methodLink RX7 149 yX7_noBill, Cond.static yX7_noBill, Cond.initialized RX7, Cond.code yX7_noBill cX7_noBill 1 (some .boolean), Cond.methodLink RX7 216 yX6_swayers, Cond.instanceMethod yX6_swayers, Cond.selects RX6 yX6_swayers yX6_swayers, Cond.initialized RX6, Cond.code yX6_swayers cX6_swayers 8 (some .int), Cond.fieldLink RX6 9 "RegaliaVotes$Vote" "told" "LRegaliaVotes$Council;", Cond.fieldLink RX6 19 "RegaliaVotes$Council" "things" "I", Cond.methodLink RX6 73 yX6_voices, Cond.instanceMethod yX6_voices, Cond.selects RX6 yX6_voices yX6_voices, Cond.code yX6_voices cX6_voices 1 (some .int), Cond.fieldLink RX6 15 "RegaliaVotes$Vote" "moment" "LRegaliaVotes$Moment;", Cond.fieldLink RX6 44 "RegaliaVotes$Moment" "sick" "I", Cond.methodLink RX6 47 yX6_voicesIfSick, Cond.instanceMethod yX6_voicesIfSick, Cond.selects RX6 yX6_voicesIfSick yX6_voicesIfSick, Cond.code yX6_voicesIfSick cX6_voicesIfSick 2 (some .int), Cond.methodLink RX6 51 yX6_able, Cond.instanceMethod yX6_able]
def wsX7_sways_r2 : List Cond := [Cond.selects RX6 yX6_able yX6_able, Cond.code yX6_able cX6_able 4 (some .int), Cond.fieldLink RX6 25 "RegaliaVotes$Council" "sort" "[I", Cond.fieldLink RX6 29 "RegaliaVotes$Moment" "warmth" "[I", Cond.fieldLink RX6 34 "RegaliaVotes$Moment" "wash" "I", Cond.methodLink RX6 55 yX6_heldBy, Cond.instanceMethod yX6_heldBy, Cond.selects RX6 yX6_heldBy yX6_heldBy, Cond.code yX6_heldBy cX6_heldBy 4 (some .int), Cond.fieldLink RX6 37 "RegaliaVotes$Moment" "holder" "[I", Cond.static yX7_bit, Cond.code yX7_bit cX7_bit 2 (some .int), Cond.methodLink RX6 67 yX6_yesOf, Cond.instanceMethod yX6_yesOf, Cond.selects RX6 yX6_yesOf yX6_yesOf, Cond.code yX6_yesOf cX6_yesOf 4 (some .int), Cond.fieldLink RX6 61 "RegaliaVotes$Council" "forBills" "[I", Cond.fieldLink RX6 64 "RegaliaVotes$Moment" "turned" "I", Cond.methodLink RX6 76 yX6_passesBy, Cond.instanceMethod yX6_passesBy, Cond.selects RX6 yX6_passesBy yX6_passesBy, Cond.code yX6_passesBy cX6_passesBy 3 (some .boolean), Cond.methodLink RX6 70 yX6_votesOf, Cond.instanceMethod yX6_votesOf]
def wsX7_sways_r3 : List Cond := [Cond.selects RX6 yX6_votesOf yX6_votesOf, Cond.code yX6_votesOf cX6_votesOf 4 (some .int), Cond.fieldLink RX6 58 "RegaliaVotes$Council" "votes" "[I"]
def wsX7_sways : List Cond := .code yX7_sways cX7_sways 2 (some .int) :: ((wsX7_sways_r1 ++ (wsX7_sways_r2 ++ wsX7_sways_r3)) ++ wsX70 ++ wsX60 ++ wsX00 ++ wsX20)
def wsX7_free_r1 : List Cond := [Cond.fieldLink RX7 48 "RegaliaVotes" "vote" "LRegaliaVotes$Vote;", Cond.methodLink RX7 133 yX6_voices, Cond.instanceMethod yX6_voices, Cond.selects RX6 yX6_voices yX6_voices, Cond.initialized RX6, Cond.code yX6_voices cX6_voices 1 (some .int), Cond.fieldLink RX6 15 "RegaliaVotes$Vote" "moment" "LRegaliaVotes$Moment;", Cond.fieldLink RX6 44 "RegaliaVotes$Moment" "sick" "I", Cond.methodLink RX6 47 yX6_voicesIfSick, Cond.instanceMethod yX6_voicesIfSick, Cond.selects RX6 yX6_voicesIfSick yX6_voicesIfSick, Cond.code yX6_voicesIfSick cX6_voicesIfSick 2 (some .int), Cond.methodLink RX6 51 yX6_able, Cond.instanceMethod yX6_able, Cond.selects RX6 yX6_able yX6_able, Cond.code yX6_able cX6_able 4 (some .int), Cond.fieldLink RX6 9 "RegaliaVotes$Vote" "told" "LRegaliaVotes$Council;", Cond.fieldLink RX6 19 "RegaliaVotes$Council" "things" "I", Cond.fieldLink RX6 25 "RegaliaVotes$Council" "sort" "[I", Cond.fieldLink RX6 29 "RegaliaVotes$Moment" "warmth" "[I", Cond.fieldLink RX6 34 "RegaliaVotes$Moment" "wash" "I", Cond.methodLink RX6 55 yX6_heldBy, Cond.instanceMethod yX6_heldBy, Cond.selects RX6 yX6_heldBy yX6_heldBy]
def wsX7_free_r2 : List Cond := [Cond.code yX6_heldBy cX6_heldBy 4 (some .int), Cond.fieldLink RX6 37 "RegaliaVotes$Moment" "holder" "[I", Cond.static yX7_bit, Cond.initialized RX7, Cond.code yX7_bit cX7_bit 2 (some .int), Cond.methodLink RX7 216 yX6_swayers, Cond.instanceMethod yX6_swayers, Cond.selects RX6 yX6_swayers yX6_swayers, Cond.code yX6_swayers cX6_swayers 8 (some .int), Cond.methodLink RX6 73 yX6_voices, Cond.methodLink RX6 67 yX6_yesOf, Cond.instanceMethod yX6_yesOf, Cond.selects RX6 yX6_yesOf yX6_yesOf, Cond.code yX6_yesOf cX6_yesOf 4 (some .int), Cond.fieldLink RX6 61 "RegaliaVotes$Council" "forBills" "[I", Cond.fieldLink RX6 64 "RegaliaVotes$Moment" "turned" "I", Cond.methodLink RX6 76 yX6_passesBy, Cond.instanceMethod yX6_passesBy, Cond.selects RX6 yX6_passesBy yX6_passesBy, Cond.code yX6_passesBy cX6_passesBy 3 (some .boolean), Cond.methodLink RX6 70 yX6_votesOf, Cond.instanceMethod yX6_votesOf, Cond.selects RX6 yX6_votesOf yX6_votesOf, Cond.code yX6_votesOf cX6_votesOf 4 (some .int)]
def wsX7_free_r3 : List Cond := [Cond.fieldLink RX6 58 "RegaliaVotes$Council" "votes" "[I"]
def wsX7_free : List Cond := .code yX7_free cX7_free 3 (some .int) :: ((wsX7_free_r1 ++ (wsX7_free_r2 ++ wsX7_free_r3)) ++ wsX70 ++ wsX60 ++ wsX20 ++ wsX00)
def wsX7_turn_r1 : List Cond := [Cond.fieldLink RX7 48 "RegaliaVotes" "vote" "LRegaliaVotes$Vote;", Cond.methodLink RX7 149 yX7_noBill, Cond.static yX7_noBill, Cond.initialized RX7, Cond.code yX7_noBill cX7_noBill 1 (some .boolean), Cond.methodLink RX7 219 yX6_fewestTurned, Cond.instanceMethod yX6_fewestTurned, Cond.selects RX6 yX6_fewestTurned yX6_fewestTurned, Cond.initialized RX6, Cond.code yX6_fewestTurned cX6_fewestTurned 6 (some .int), Cond.methodLink RX6 73 yX6_voices, Cond.instanceMethod yX6_voices, Cond.selects RX6 yX6_voices yX6_voices, Cond.code yX6_voices cX6_voices 1 (some .int), Cond.fieldLink RX6 15 "RegaliaVotes$Vote" "moment" "LRegaliaVotes$Moment;", Cond.fieldLink RX6 44 "RegaliaVotes$Moment" "sick" "I", Cond.methodLink RX6 47 yX6_voicesIfSick, Cond.instanceMethod yX6_voicesIfSick, Cond.selects RX6 yX6_voicesIfSick yX6_voicesIfSick, Cond.code yX6_voicesIfSick cX6_voicesIfSick 2 (some .int), Cond.methodLink RX6 51 yX6_able, Cond.instanceMethod yX6_able, Cond.selects RX6 yX6_able yX6_able, Cond.code yX6_able cX6_able 4 (some .int)]
def wsX7_turn_r2 : List Cond := [Cond.fieldLink RX6 9 "RegaliaVotes$Vote" "told" "LRegaliaVotes$Council;", Cond.fieldLink RX6 19 "RegaliaVotes$Council" "things" "I", Cond.fieldLink RX6 25 "RegaliaVotes$Council" "sort" "[I", Cond.fieldLink RX6 29 "RegaliaVotes$Moment" "warmth" "[I", Cond.fieldLink RX6 34 "RegaliaVotes$Moment" "wash" "I", Cond.methodLink RX6 55 yX6_heldBy, Cond.instanceMethod yX6_heldBy, Cond.selects RX6 yX6_heldBy yX6_heldBy, Cond.code yX6_heldBy cX6_heldBy 4 (some .int), Cond.fieldLink RX6 37 "RegaliaVotes$Moment" "holder" "[I", Cond.static yX7_bit, Cond.code yX7_bit cX7_bit 2 (some .int), Cond.methodLink RX6 67 yX6_yesOf, Cond.instanceMethod yX6_yesOf, Cond.selects RX6 yX6_yesOf yX6_yesOf, Cond.code yX6_yesOf cX6_yesOf 4 (some .int), Cond.fieldLink RX6 61 "RegaliaVotes$Council" "forBills" "[I", Cond.fieldLink RX6 64 "RegaliaVotes$Moment" "turned" "I", Cond.static yX7_isWithin, Cond.code yX7_isWithin cX7_isWithin 2 (some .boolean), Cond.methodLink RX6 89 yX6_isFewer, Cond.static yX6_isFewer, Cond.code yX6_isFewer cX6_isFewer 2 (some .boolean), Cond.methodLink RX6 96 yJ6_bitCount_0f7a4]
def wsX7_turn_r3 : List Cond := [Cond.static yJ6_bitCount_0f7a4, Cond.initialized RJ6, Cond.code yJ6_bitCount_0f7a4 cJ6_bitCount_0f7a4 1 (some .int), Cond.constant RJ6 265 (1431655765), Cond.constant RJ6 266 (858993459), Cond.constant RJ6 267 (252645135), Cond.methodLink RX6 76 yX6_passesBy, Cond.instanceMethod yX6_passesBy, Cond.selects RX6 yX6_passesBy yX6_passesBy, Cond.code yX6_passesBy cX6_passesBy 3 (some .boolean), Cond.methodLink RX6 70 yX6_votesOf, Cond.instanceMethod yX6_votesOf, Cond.selects RX6 yX6_votesOf yX6_votesOf, Cond.code yX6_votesOf cX6_votesOf 4 (some .int), Cond.fieldLink RX6 58 "RegaliaVotes$Council" "votes" "[I"]
def wsX7_turn : List Cond := .code yX7_turn cX7_turn 2 (some .int) :: ((wsX7_turn_r1 ++ (wsX7_turn_r2 ++ wsX7_turn_r3)) ++ wsX70 ++ wsX60 ++ wsX20 ++ wsX00)
def wsX7_hand_r1 : List Cond := [Cond.fieldLink RX7 48 "RegaliaVotes" "vote" "LRegaliaVotes$Vote;", Cond.methodLink RX7 149 yX7_noBill, Cond.static yX7_noBill, Cond.initialized RX7, Cond.code yX7_noBill cX7_noBill 1 (some .boolean), Cond.methodLink RX7 222 yX6_fewestHanded, Cond.instanceMethod yX6_fewestHanded, Cond.selects RX6 yX6_fewestHanded yX6_fewestHanded, Cond.initialized RX6, Cond.code yX6_fewestHanded cX6_fewestHanded 8 (some .int), Cond.fieldLink RX6 15 "RegaliaVotes$Vote" "moment" "LRegaliaVotes$Moment;", Cond.fieldLink RX6 44 "RegaliaVotes$Moment" "sick" "I", Cond.methodLink RX6 51 yX6_able, Cond.instanceMethod yX6_able, Cond.selects RX6 yX6_able yX6_able, Cond.code yX6_able cX6_able 4 (some .int), Cond.fieldLink RX6 9 "RegaliaVotes$Vote" "told" "LRegaliaVotes$Council;", Cond.fieldLink RX6 19 "RegaliaVotes$Council" "things" "I", Cond.fieldLink RX6 25 "RegaliaVotes$Council" "sort" "[I", Cond.fieldLink RX6 29 "RegaliaVotes$Moment" "warmth" "[I", Cond.fieldLink RX6 34 "RegaliaVotes$Moment" "wash" "I", Cond.methodLink RX6 73 yX6_voices, Cond.instanceMethod yX6_voices, Cond.selects RX6 yX6_voices yX6_voices]
def wsX7_hand_r2 : List Cond := [Cond.code yX6_voices cX6_voices 1 (some .int), Cond.methodLink RX6 47 yX6_voicesIfSick, Cond.instanceMethod yX6_voicesIfSick, Cond.selects RX6 yX6_voicesIfSick yX6_voicesIfSick, Cond.code yX6_voicesIfSick cX6_voicesIfSick 2 (some .int), Cond.methodLink RX6 55 yX6_heldBy, Cond.instanceMethod yX6_heldBy, Cond.selects RX6 yX6_heldBy yX6_heldBy, Cond.code yX6_heldBy cX6_heldBy 4 (some .int), Cond.fieldLink RX6 37 "RegaliaVotes$Moment" "holder" "[I", Cond.static yX7_bit, Cond.code yX7_bit cX7_bit 2 (some .int), Cond.methodLink RX6 67 yX6_yesOf, Cond.instanceMethod yX6_yesOf, Cond.selects RX6 yX6_yesOf yX6_yesOf, Cond.code yX6_yesOf cX6_yesOf 4 (some .int), Cond.fieldLink RX6 61 "RegaliaVotes$Council" "forBills" "[I", Cond.fieldLink RX6 64 "RegaliaVotes$Moment" "turned" "I", Cond.methodLink RX6 92 yX6_isAnyoneWell, Cond.instanceMethod yX6_isAnyoneWell, Cond.selects RX6 yX6_isAnyoneWell yX6_isAnyoneWell, Cond.code yX6_isAnyoneWell cX6_isAnyoneWell 1 (some .boolean), Cond.fieldLink RX6 83 "RegaliaVotes$Council" "officers" "I", Cond.methodLink RX6 96 yJ6_bitCount_0f7a4]
def wsX7_hand_r3 : List Cond := [Cond.static yJ6_bitCount_0f7a4, Cond.initialized RJ6, Cond.code yJ6_bitCount_0f7a4 cJ6_bitCount_0f7a4 1 (some .int), Cond.constant RJ6 265 (1431655765), Cond.constant RJ6 266 (858993459), Cond.constant RJ6 267 (252645135), Cond.static yX7_isWithin, Cond.code yX7_isWithin cX7_isWithin 2 (some .boolean), Cond.methodLink RX6 89 yX6_isFewer, Cond.static yX6_isFewer, Cond.code yX6_isFewer cX6_isFewer 2 (some .boolean), Cond.methodLink RX6 76 yX6_passesBy, Cond.instanceMethod yX6_passesBy, Cond.selects RX6 yX6_passesBy yX6_passesBy, Cond.code yX6_passesBy cX6_passesBy 3 (some .boolean), Cond.methodLink RX6 70 yX6_votesOf, Cond.instanceMethod yX6_votesOf, Cond.selects RX6 yX6_votesOf yX6_votesOf, Cond.code yX6_votesOf cX6_votesOf 4 (some .int), Cond.fieldLink RX6 58 "RegaliaVotes$Council" "votes" "[I"]
def wsX7_hand : List Cond := .code yX7_hand cX7_hand 2 (some .int) :: ((wsX7_hand_r1 ++ (wsX7_hand_r2 ++ wsX7_hand_r3)) ++ wsX70 ++ wsX60 ++ wsX20 ++ wsX00)
def wsX7_swaps_r1 : List Cond := [Cond.fieldLink RX7 48 "RegaliaVotes" "vote" "LRegaliaVotes$Vote;", Cond.methodLink RX7 149 yX7_noBill, Cond.static yX7_noBill, Cond.initialized RX7, Cond.code yX7_noBill cX7_noBill 1 (some .boolean), Cond.methodLink RX7 225 yX6_changingSwaps, Cond.instanceMethod yX6_changingSwaps, Cond.selects RX6 yX6_changingSwaps yX6_changingSwaps, Cond.initialized RX6, Cond.code yX6_changingSwaps cX6_changingSwaps 10 (some .int), Cond.fieldLink RX6 15 "RegaliaVotes$Vote" "moment" "LRegaliaVotes$Moment;", Cond.fieldLink RX6 44 "RegaliaVotes$Moment" "sick" "I", Cond.fieldLink RX6 9 "RegaliaVotes$Vote" "told" "LRegaliaVotes$Council;", Cond.fieldLink RX6 19 "RegaliaVotes$Council" "things" "I", Cond.fieldLink RX6 37 "RegaliaVotes$Moment" "holder" "[I", Cond.methodLink RX6 51 yX6_able, Cond.instanceMethod yX6_able, Cond.selects RX6 yX6_able yX6_able, Cond.code yX6_able cX6_able 4 (some .int), Cond.fieldLink RX6 25 "RegaliaVotes$Council" "sort" "[I", Cond.fieldLink RX6 29 "RegaliaVotes$Moment" "warmth" "[I", Cond.fieldLink RX6 34 "RegaliaVotes$Moment" "wash" "I", Cond.methodLink RX6 55 yX6_heldBy, Cond.instanceMethod yX6_heldBy]
def wsX7_swaps_r2 : List Cond := [Cond.selects RX6 yX6_heldBy yX6_heldBy, Cond.code yX6_heldBy cX6_heldBy 4 (some .int), Cond.static yX7_bit, Cond.code yX7_bit cX7_bit 2 (some .int), Cond.methodLink RX6 67 yX6_yesOf, Cond.instanceMethod yX6_yesOf, Cond.selects RX6 yX6_yesOf yX6_yesOf, Cond.code yX6_yesOf cX6_yesOf 4 (some .int), Cond.fieldLink RX6 61 "RegaliaVotes$Council" "forBills" "[I", Cond.fieldLink RX6 64 "RegaliaVotes$Moment" "turned" "I", Cond.methodLink RX6 76 yX6_passesBy, Cond.instanceMethod yX6_passesBy, Cond.selects RX6 yX6_passesBy yX6_passesBy, Cond.code yX6_passesBy cX6_passesBy 3 (some .boolean), Cond.methodLink RX6 70 yX6_votesOf, Cond.instanceMethod yX6_votesOf, Cond.selects RX6 yX6_votesOf yX6_votesOf, Cond.code yX6_votesOf cX6_votesOf 4 (some .int), Cond.fieldLink RX6 58 "RegaliaVotes$Council" "votes" "[I", Cond.methodLink RX6 101 yX6_exchanged, Cond.static yX6_exchanged, Cond.code yX6_exchanged cX6_exchanged 4 (some .int)]
def wsX7_swaps : List Cond := .code yX7_swaps cX7_swaps 2 (some .int) :: ((wsX7_swaps_r1 ++ wsX7_swaps_r2) ++ wsX70 ++ wsX60 ++ wsX20 ++ wsX00)
def wsX7_record : List Cond := .code yX7_record cX7_record 3 (some .int) :: ([.fieldLink RX7 64 "RegaliaVotes" "minutes" "LRegaliaVotes$Minutes;", .fieldLink RX7 228 "RegaliaVotes$Minutes" "lines" "I", .methodLink RX7 149 yX7_noBill, .static yX7_noBill, .initialized RX7, .code yX7_noBill cX7_noBill 1 (some .boolean), .methodLink RX7 231 yX1_write, .instanceMethod yX1_write, .selects RX1 yX1_write yX1_write, .initialized RX1, .code yX1_write cX1_write 3 none, .fieldLink RX1 19 "RegaliaVotes$Minutes" "lines" "I", .fieldLink RX1 9 "RegaliaVotes$Minutes" "bills" "[I", .fieldLink RX1 15 "RegaliaVotes$Minutes" "outcomes" "[Z"] ++ wsX70 ++ wsX10)
def wsX7_forget : List Cond := .code yX7_forget cX7_forget 2 (some .int) :: ([.fieldLink RX7 64 "RegaliaVotes" "minutes" "LRegaliaVotes$Minutes;", .fieldLink RX7 228 "RegaliaVotes$Minutes" "lines" "I", .methodLink RX7 97 yX1_tearUp, .instanceMethod yX1_tearUp, .selects RX1 yX1_tearUp yX1_tearUp, .initialized RX1, .code yX1_tearUp cX1_tearUp 1 none, .fieldLink RX1 19 "RegaliaVotes$Minutes" "lines" "I"] ++ wsX70 ++ wsX10)
def wsX7_isFor_r1 : List Cond := [Cond.fieldLink RX7 64 "RegaliaVotes" "minutes" "LRegaliaVotes$Minutes;", Cond.methodLink RX7 103 yX7_noThing, Cond.instanceMethod yX7_noThing, Cond.selects RX7 yX7_noThing yX7_noThing, Cond.initialized RX7, Cond.code yX7_noThing cX7_noThing 2 (some .boolean), Cond.fieldLink RX7 20 "RegaliaVotes" "told" "LRegaliaVotes$Council;", Cond.fieldLink RX7 274 "RegaliaVotes$Council" "things" "I", Cond.methodLink RX7 194 yX7_noTerm, Cond.static yX7_noTerm, Cond.code yX7_noTerm cX7_noTerm 1 (some .boolean), Cond.methodLink RX7 235 yX1_possibleSets, Cond.instanceMethod yX1_possibleSets, Cond.selects RX1 yX1_possibleSets yX1_possibleSets, Cond.initialized RX1, Cond.code yX1_possibleSets cX1_possibleSets 5 (some .int), Cond.fieldLink RX1 23 "RegaliaVotes$Minutes" "vote" "LRegaliaVotes$Vote;", Cond.methodLink RX1 44 yX6_voices, Cond.instanceMethod yX6_voices, Cond.selects RX6 yX6_voices yX6_voices, Cond.initialized RX6, Cond.code yX6_voices cX6_voices 1 (some .int), Cond.fieldLink RX6 15 "RegaliaVotes$Vote" "moment" "LRegaliaVotes$Moment;", Cond.fieldLink RX6 44 "RegaliaVotes$Moment" "sick" "I"]
def wsX7_isFor_r2 : List Cond := [Cond.methodLink RX6 47 yX6_voicesIfSick, Cond.instanceMethod yX6_voicesIfSick, Cond.selects RX6 yX6_voicesIfSick yX6_voicesIfSick, Cond.code yX6_voicesIfSick cX6_voicesIfSick 2 (some .int), Cond.methodLink RX6 51 yX6_able, Cond.instanceMethod yX6_able, Cond.selects RX6 yX6_able yX6_able, Cond.code yX6_able cX6_able 4 (some .int), Cond.fieldLink RX6 9 "RegaliaVotes$Vote" "told" "LRegaliaVotes$Council;", Cond.fieldLink RX6 19 "RegaliaVotes$Council" "things" "I", Cond.fieldLink RX6 25 "RegaliaVotes$Council" "sort" "[I", Cond.fieldLink RX6 29 "RegaliaVotes$Moment" "warmth" "[I", Cond.fieldLink RX6 34 "RegaliaVotes$Moment" "wash" "I", Cond.methodLink RX6 55 yX6_heldBy, Cond.instanceMethod yX6_heldBy, Cond.selects RX6 yX6_heldBy yX6_heldBy, Cond.code yX6_heldBy cX6_heldBy 4 (some .int), Cond.fieldLink RX6 37 "RegaliaVotes$Moment" "holder" "[I", Cond.static yX7_bit, Cond.code yX7_bit cX7_bit 2 (some .int), Cond.methodLink RX1 48 yX1_isSoIfFor, Cond.instanceMethod yX1_isSoIfFor, Cond.selects RX1 yX1_isSoIfFor yX1_isSoIfFor, Cond.code yX1_isSoIfFor cX1_isSoIfFor 5 (some .boolean)]
def wsX7_isFor_r3 : List Cond := [Cond.fieldLink RX1 19 "RegaliaVotes$Minutes" "lines" "I", Cond.fieldLink RX1 9 "RegaliaVotes$Minutes" "bills" "[I", Cond.fieldLink RX1 15 "RegaliaVotes$Minutes" "outcomes" "[Z", Cond.methodLink RX1 27 yX6_yesIfFor, Cond.instanceMethod yX6_yesIfFor, Cond.selects RX6 yX6_yesIfFor yX6_yesIfFor, Cond.code yX6_yesIfFor cX6_yesIfFor 5 (some .int), Cond.fieldLink RX6 64 "RegaliaVotes$Moment" "turned" "I", Cond.methodLink RX6 67 yX6_yesOf, Cond.instanceMethod yX6_yesOf, Cond.selects RX6 yX6_yesOf yX6_yesOf, Cond.code yX6_yesOf cX6_yesOf 4 (some .int), Cond.fieldLink RX6 61 "RegaliaVotes$Council" "forBills" "[I", Cond.methodLink RX1 33 yX6_passesBy, Cond.instanceMethod yX6_passesBy, Cond.selects RX6 yX6_passesBy yX6_passesBy, Cond.code yX6_passesBy cX6_passesBy 3 (some .boolean), Cond.methodLink RX6 70 yX6_votesOf, Cond.instanceMethod yX6_votesOf, Cond.selects RX6 yX6_votesOf yX6_votesOf, Cond.code yX6_votesOf cX6_votesOf 4 (some .int), Cond.fieldLink RX6 58 "RegaliaVotes$Council" "votes" "[I", Cond.methodLink RX7 238 yX1_leastPossibleSet, Cond.instanceMethod yX1_leastPossibleSet]
def wsX7_isFor_r4 : List Cond := [Cond.selects RX1 yX1_leastPossibleSet yX1_leastPossibleSet, Cond.code yX1_leastPossibleSet cX1_leastPossibleSet 4 (some .int)]
def wsX7_isFor : List Cond := .code yX7_isFor cX7_isFor 3 (some .int) :: ((wsX7_isFor_r1 ++ (wsX7_isFor_r2 ++ (wsX7_isFor_r3 ++ wsX7_isFor_r4))) ++ wsX70 ++ wsX00 ++ wsX10 ++ wsX60 ++ wsX20)
def wsX7_who_r1 : List Cond := [Cond.fieldLink RX7 64 "RegaliaVotes" "minutes" "LRegaliaVotes$Minutes;", Cond.methodLink RX7 241 yX1_possiblySick, Cond.instanceMethod yX1_possiblySick, Cond.selects RX1 yX1_possiblySick yX1_possiblySick, Cond.initialized RX1, Cond.code yX1_possiblySick cX1_possiblySick 3 (some .int), Cond.fieldLink RX1 23 "RegaliaVotes$Minutes" "vote" "LRegaliaVotes$Vote;", Cond.fieldLink RX1 56 "RegaliaVotes$Vote" "told" "LRegaliaVotes$Council;", Cond.fieldLink RX1 60 "RegaliaVotes$Council" "officers" "I", Cond.methodLink RX1 52 yX1_isSoIfSick, Cond.instanceMethod yX1_isSoIfSick, Cond.selects RX1 yX1_isSoIfSick yX1_isSoIfSick, Cond.code yX1_isSoIfSick cX1_isSoIfSick 4 (some .boolean), Cond.fieldLink RX1 19 "RegaliaVotes$Minutes" "lines" "I", Cond.fieldLink RX1 9 "RegaliaVotes$Minutes" "bills" "[I", Cond.fieldLink RX1 15 "RegaliaVotes$Minutes" "outcomes" "[Z", Cond.methodLink RX1 37 yX6_voicesIfSick, Cond.instanceMethod yX6_voicesIfSick, Cond.selects RX6 yX6_voicesIfSick yX6_voicesIfSick, Cond.initialized RX6, Cond.code yX6_voicesIfSick cX6_voicesIfSick 2 (some .int), Cond.methodLink RX6 51 yX6_able, Cond.instanceMethod yX6_able, Cond.selects RX6 yX6_able yX6_able]
def wsX7_who_r2 : List Cond := [Cond.code yX6_able cX6_able 4 (some .int), Cond.fieldLink RX6 9 "RegaliaVotes$Vote" "told" "LRegaliaVotes$Council;", Cond.fieldLink RX6 19 "RegaliaVotes$Council" "things" "I", Cond.fieldLink RX6 25 "RegaliaVotes$Council" "sort" "[I", Cond.fieldLink RX6 15 "RegaliaVotes$Vote" "moment" "LRegaliaVotes$Moment;", Cond.fieldLink RX6 29 "RegaliaVotes$Moment" "warmth" "[I", Cond.fieldLink RX6 34 "RegaliaVotes$Moment" "wash" "I", Cond.methodLink RX6 55 yX6_heldBy, Cond.instanceMethod yX6_heldBy, Cond.selects RX6 yX6_heldBy yX6_heldBy, Cond.code yX6_heldBy cX6_heldBy 4 (some .int), Cond.fieldLink RX6 37 "RegaliaVotes$Moment" "holder" "[I", Cond.static yX7_bit, Cond.initialized RX7, Cond.code yX7_bit cX7_bit 2 (some .int), Cond.methodLink RX1 41 yX6_yesOf, Cond.instanceMethod yX6_yesOf, Cond.selects RX6 yX6_yesOf yX6_yesOf, Cond.code yX6_yesOf cX6_yesOf 4 (some .int), Cond.fieldLink RX6 61 "RegaliaVotes$Council" "forBills" "[I", Cond.fieldLink RX6 64 "RegaliaVotes$Moment" "turned" "I", Cond.methodLink RX1 33 yX6_passesBy, Cond.instanceMethod yX6_passesBy, Cond.selects RX6 yX6_passesBy yX6_passesBy]
def wsX7_who_r3 : List Cond := [Cond.code yX6_passesBy cX6_passesBy 3 (some .boolean), Cond.methodLink RX6 70 yX6_votesOf, Cond.instanceMethod yX6_votesOf, Cond.selects RX6 yX6_votesOf yX6_votesOf, Cond.code yX6_votesOf cX6_votesOf 4 (some .int), Cond.fieldLink RX6 58 "RegaliaVotes$Council" "votes" "[I"]
def wsX7_who : List Cond := .code yX7_who cX7_who 1 (some .int) :: ((wsX7_who_r1 ++ (wsX7_who_r2 ++ wsX7_who_r3)) ++ wsX70 ++ wsX10 ++ wsX60 ++ wsX00 ++ wsX20)
def wsX7_odds_r1 : List Cond := [Cond.fieldLink RX7 48 "RegaliaVotes" "vote" "LRegaliaVotes$Vote;", Cond.methodLink RX7 149 yX7_noBill, Cond.static yX7_noBill, Cond.initialized RX7, Cond.code yX7_noBill cX7_noBill 1 (some .boolean), Cond.methodLink RX7 194 yX7_noTerm, Cond.static yX7_noTerm, Cond.code yX7_noTerm cX7_noTerm 1 (some .boolean), Cond.methodLink RX7 244 yX6_chancesToPass, Cond.instanceMethod yX6_chancesToPass, Cond.selects RX6 yX6_chancesToPass yX6_chancesToPass, Cond.initialized RX6, Cond.code yX6_chancesToPass cX6_chancesToPass 6 (some .int), Cond.fieldLink RX6 9 "RegaliaVotes$Vote" "told" "LRegaliaVotes$Council;", Cond.fieldLink RX6 83 "RegaliaVotes$Council" "officers" "I", Cond.methodLink RX6 67 yX6_yesOf, Cond.instanceMethod yX6_yesOf, Cond.selects RX6 yX6_yesOf yX6_yesOf, Cond.code yX6_yesOf cX6_yesOf 4 (some .int), Cond.fieldLink RX6 19 "RegaliaVotes$Council" "things" "I", Cond.fieldLink RX6 61 "RegaliaVotes$Council" "forBills" "[I", Cond.fieldLink RX6 15 "RegaliaVotes$Vote" "moment" "LRegaliaVotes$Moment;", Cond.fieldLink RX6 64 "RegaliaVotes$Moment" "turned" "I", Cond.static yX7_bit]
def wsX7_odds_r2 : List Cond := [Cond.code yX7_bit cX7_bit 2 (some .int), Cond.methodLink RX6 47 yX6_voicesIfSick, Cond.instanceMethod yX6_voicesIfSick, Cond.selects RX6 yX6_voicesIfSick yX6_voicesIfSick, Cond.code yX6_voicesIfSick cX6_voicesIfSick 2 (some .int), Cond.methodLink RX6 51 yX6_able, Cond.instanceMethod yX6_able, Cond.selects RX6 yX6_able yX6_able, Cond.code yX6_able cX6_able 4 (some .int), Cond.fieldLink RX6 25 "RegaliaVotes$Council" "sort" "[I", Cond.fieldLink RX6 29 "RegaliaVotes$Moment" "warmth" "[I", Cond.fieldLink RX6 34 "RegaliaVotes$Moment" "wash" "I", Cond.methodLink RX6 55 yX6_heldBy, Cond.instanceMethod yX6_heldBy, Cond.selects RX6 yX6_heldBy yX6_heldBy, Cond.code yX6_heldBy cX6_heldBy 4 (some .int), Cond.fieldLink RX6 37 "RegaliaVotes$Moment" "holder" "[I", Cond.methodLink RX6 76 yX6_passesBy, Cond.instanceMethod yX6_passesBy, Cond.selects RX6 yX6_passesBy yX6_passesBy, Cond.code yX6_passesBy cX6_passesBy 3 (some .boolean), Cond.methodLink RX6 70 yX6_votesOf, Cond.instanceMethod yX6_votesOf, Cond.selects RX6 yX6_votesOf yX6_votesOf]
def wsX7_odds_r3 : List Cond := [Cond.code yX6_votesOf cX6_votesOf 4 (some .int), Cond.fieldLink RX6 58 "RegaliaVotes$Council" "votes" "[I", Cond.methodLink RX6 105 yX6_chancesOfSick, Cond.instanceMethod yX6_chancesOfSick, Cond.selects RX6 yX6_chancesOfSick yX6_chancesOfSick, Cond.code yX6_chancesOfSick cX6_chancesOfSick 5 (some .int), Cond.methodLink RX7 247 yX6_chances, Cond.instanceMethod yX6_chances, Cond.selects RX6 yX6_chances yX6_chances, Cond.code yX6_chances cX6_chances 3 (some .int), Cond.methodLink RX7 203 yX7_term, Cond.static yX7_term, Cond.code yX7_term cX7_term 4 (some .int), Cond.methodLink RX7 290 yX7_commonDivisor, Cond.static yX7_commonDivisor, Cond.code yX7_commonDivisor cX7_commonDivisor 6 (some .int)]
def wsX7_odds : List Cond := .code yX7_odds cX7_odds 4 (some .int) :: ((wsX7_odds_r1 ++ (wsX7_odds_r2 ++ wsX7_odds_r3)) ++ wsX70 ++ wsX60 ++ wsX00 ++ wsX20)
def wsX7_asThing : List Cond := .code yX7_asThing cX7_asThing 2 (some .int) :: ([.fieldLink RX7 82 "RegaliaVotes" "traced" "J", .fieldLink RX7 20 "RegaliaVotes" "told" "LRegaliaVotes$Council;", .fieldLink RX7 111 "RegaliaVotes$Council" "votes" "[I"] ++ wsX70 ++ wsX00)
def wsX7_asSceptre : List Cond := .code yX7_asSceptre cX7_asSceptre 2 (some .int) :: ([.fieldLink RX7 82 "RegaliaVotes" "traced" "J", .constantLong RX7 280 (10), .fieldLink RX7 20 "RegaliaVotes" "told" "LRegaliaVotes$Council;", .fieldLink RX7 114 "RegaliaVotes$Council" "forBills" "[I", .methodLink RX7 251 yX7_asThing, .instanceMethod yX7_asThing, .selects RX7 yX7_asThing yX7_asThing, .initialized RX7, .code yX7_asThing cX7_asThing 2 (some .int), .fieldLink RX7 111 "RegaliaVotes$Council" "votes" "[I", .methodLink RX7 184 yJ6_bitCount_0f7a4, .static yJ6_bitCount_0f7a4, .initialized RJ6, .code yJ6_bitCount_0f7a4 cJ6_bitCount_0f7a4 1 (some .int), .constant RJ6 265 (1431655765), .constant RJ6 266 (858993459), .constant RJ6 267 (252645135)] ++ wsX70 ++ wsX00)
def wsX7_asOrb : List Cond := .code yX7_asOrb cX7_asOrb 2 (some .int) :: ([.fieldLink RX7 82 "RegaliaVotes" "traced" "J", .constantLong RX7 282 (100), .fieldLink RX7 39 "RegaliaVotes" "moment" "LRegaliaVotes$Moment;", .fieldLink RX7 130 "RegaliaVotes$Moment" "warmth" "[I", .methodLink RX7 251 yX7_asThing, .instanceMethod yX7_asThing, .selects RX7 yX7_asThing yX7_asThing, .initialized RX7, .code yX7_asThing cX7_asThing 2 (some .int), .fieldLink RX7 20 "RegaliaVotes" "told" "LRegaliaVotes$Council;", .fieldLink RX7 111 "RegaliaVotes$Council" "votes" "[I"] ++ wsX70 ++ wsX20 ++ wsX00)
def wsX7_asRing : List Cond := .code yX7_asRing cX7_asRing 2 (some .int) :: ([.fieldLink RX7 82 "RegaliaVotes" "traced" "J", .constantLong RX7 284 (1000), .methodLink RX7 254 yX7_asSceptre, .instanceMethod yX7_asSceptre, .selects RX7 yX7_asSceptre yX7_asSceptre, .initialized RX7, .code yX7_asSceptre cX7_asSceptre 2 (some .int), .constantLong RX7 280 (10), .fieldLink RX7 20 "RegaliaVotes" "told" "LRegaliaVotes$Council;", .fieldLink RX7 114 "RegaliaVotes$Council" "forBills" "[I", .methodLink RX7 251 yX7_asThing, .instanceMethod yX7_asThing, .selects RX7 yX7_asThing yX7_asThing, .code yX7_asThing cX7_asThing 2 (some .int), .fieldLink RX7 111 "RegaliaVotes$Council" "votes" "[I", .methodLink RX7 184 yJ6_bitCount_0f7a4, .static yJ6_bitCount_0f7a4, .initialized RJ6, .code yJ6_bitCount_0f7a4 cJ6_bitCount_0f7a4 1 (some .int), .constant RJ6 265 (1431655765), .constant RJ6 266 (858993459), .constant RJ6 267 (252645135)] ++ wsX70 ++ wsX00)
def wsX7_asSeal : List Cond := .code yX7_asSeal cX7_asSeal 2 (some .int) :: ([.fieldLink RX7 82 "RegaliaVotes" "traced" "J", .constantLong RX7 286 (10000), .methodLink RX7 257 yX7_asOrb, .instanceMethod yX7_asOrb, .selects RX7 yX7_asOrb yX7_asOrb, .initialized RX7, .code yX7_asOrb cX7_asOrb 2 (some .int), .constantLong RX7 282 (100), .fieldLink RX7 39 "RegaliaVotes" "moment" "LRegaliaVotes$Moment;", .fieldLink RX7 130 "RegaliaVotes$Moment" "warmth" "[I", .methodLink RX7 251 yX7_asThing, .instanceMethod yX7_asThing, .selects RX7 yX7_asThing yX7_asThing, .code yX7_asThing cX7_asThing 2 (some .int), .fieldLink RX7 20 "RegaliaVotes" "told" "LRegaliaVotes$Council;", .fieldLink RX7 111 "RegaliaVotes$Council" "votes" "[I"] ++ wsX70 ++ wsX20 ++ wsX00)
def wsX7_asSpoon : List Cond := .code yX7_asSpoon cX7_asSpoon 2 (some .int) :: ([.fieldLink RX7 82 "RegaliaVotes" "traced" "J", .constantLong RX7 288 (100000), .fieldLink RX7 39 "RegaliaVotes" "moment" "LRegaliaVotes$Moment;", .fieldLink RX7 162 "RegaliaVotes$Moment" "put" "I", .methodLink RX7 251 yX7_asThing, .instanceMethod yX7_asThing, .selects RX7 yX7_asThing yX7_asThing, .initialized RX7, .code yX7_asThing cX7_asThing 2 (some .int), .fieldLink RX7 20 "RegaliaVotes" "told" "LRegaliaVotes$Council;", .fieldLink RX7 111 "RegaliaVotes$Council" "votes" "[I"] ++ wsX70 ++ wsX20 ++ wsX00)
def wsX7_rate_r1 : List Cond := [Cond.constant RX7 250 (-1000000), Cond.methodLink RX7 103 yX7_noThing, Cond.instanceMethod yX7_noThing, Cond.selects RX7 yX7_noThing yX7_noThing, Cond.initialized RX7, Cond.code yX7_noThing cX7_noThing 2 (some .boolean), Cond.fieldLink RX7 20 "RegaliaVotes" "told" "LRegaliaVotes$Council;", Cond.fieldLink RX7 274 "RegaliaVotes$Council" "things" "I", Cond.methodLink RX7 251 yX7_asThing, Cond.instanceMethod yX7_asThing, Cond.selects RX7 yX7_asThing yX7_asThing, Cond.code yX7_asThing cX7_asThing 2 (some .int), Cond.fieldLink RX7 82 "RegaliaVotes" "traced" "J", Cond.fieldLink RX7 111 "RegaliaVotes$Council" "votes" "[I", Cond.methodLink RX7 254 yX7_asSceptre, Cond.instanceMethod yX7_asSceptre, Cond.selects RX7 yX7_asSceptre yX7_asSceptre, Cond.code yX7_asSceptre cX7_asSceptre 2 (some .int), Cond.constantLong RX7 280 (10), Cond.fieldLink RX7 114 "RegaliaVotes$Council" "forBills" "[I", Cond.methodLink RX7 184 yJ6_bitCount_0f7a4, Cond.static yJ6_bitCount_0f7a4, Cond.initialized RJ6, Cond.code yJ6_bitCount_0f7a4 cJ6_bitCount_0f7a4 1 (some .int)]
def wsX7_rate_r2 : List Cond := [Cond.constant RJ6 265 (1431655765), Cond.constant RJ6 266 (858993459), Cond.constant RJ6 267 (252645135), Cond.methodLink RX7 257 yX7_asOrb, Cond.instanceMethod yX7_asOrb, Cond.selects RX7 yX7_asOrb yX7_asOrb, Cond.code yX7_asOrb cX7_asOrb 2 (some .int), Cond.constantLong RX7 282 (100), Cond.fieldLink RX7 39 "RegaliaVotes" "moment" "LRegaliaVotes$Moment;", Cond.fieldLink RX7 130 "RegaliaVotes$Moment" "warmth" "[I", Cond.methodLink RX7 260 yX7_asRing, Cond.instanceMethod yX7_asRing, Cond.selects RX7 yX7_asRing yX7_asRing, Cond.code yX7_asRing cX7_asRing 2 (some .int), Cond.constantLong RX7 284 (1000), Cond.methodLink RX7 263 yX7_asSeal, Cond.instanceMethod yX7_asSeal, Cond.selects RX7 yX7_asSeal yX7_asSeal, Cond.code yX7_asSeal cX7_asSeal 2 (some .int), Cond.constantLong RX7 286 (10000), Cond.methodLink RX7 266 yX7_asSpoon, Cond.instanceMethod yX7_asSpoon, Cond.selects RX7 yX7_asSpoon yX7_asSpoon, Cond.code yX7_asSpoon cX7_asSpoon 2 (some .int)]
def wsX7_rate_r3 : List Cond := [Cond.constantLong RX7 288 (100000), Cond.fieldLink RX7 162 "RegaliaVotes$Moment" "put" "I"]
def wsX7_rate : List Cond := .code yX7_rate cX7_rate 3 (some .int) :: ((wsX7_rate_r1 ++ (wsX7_rate_r2 ++ wsX7_rate_r3)) ++ wsX70 ++ wsX00 ++ wsX20)
def wsX7_noImage : List Cond := .code yX7_noImage cX7_noImage 1 (some .boolean) :: ([])
def wsX7_keep : List Cond := .code yX7_keep cX7_keep 2 (some .int) :: ([.fieldLink RX7 75 "RegaliaVotes" "images" "[LRegaliaVotes$Moment;", .fieldLink RX7 39 "RegaliaVotes" "moment" "LRegaliaVotes$Moment;", .fieldLink RX7 79 "RegaliaVotes" "kept" "I", .fieldLink RX7 162 "RegaliaVotes$Moment" "put" "I", .methodLink RX7 269 yX7_noImage, .static yX7_noImage, .initialized RX7, .code yX7_noImage cX7_noImage 1 (some .boolean), .methodLink RX7 272 yX2_copyFrom, .instanceMethod yX2_copyFrom, .selects RX2 yX2_copyFrom yX2_copyFrom, .initialized RX2, .code yX2_copyFrom cX2_copyFrom 2 none, .fieldLink RX2 9 "RegaliaVotes$Moment" "holder" "[I", .methodLink RX2 39 arraycopyName, .native arraycopyName, .static arraycopyName, .initialized "java/lang/System", .fieldLink RX2 15 "RegaliaVotes$Moment" "warmth" "[I", .fieldLink RX2 18 "RegaliaVotes$Moment" "wash" "I", .fieldLink RX2 22 "RegaliaVotes$Moment" "turned" "I", .fieldLink RX2 25 "RegaliaVotes$Moment" "sick" "I", .fieldLink RX2 28 "RegaliaVotes$Moment" "put" "I", .fieldLink RX2 31 "RegaliaVotes$Moment" "passed" "I"] ++ wsX70 ++ wsX20)
def wsX7_back_r1 : List Cond := [Cond.fieldLink RX7 79 "RegaliaVotes" "kept" "I", Cond.fieldLink RX7 39 "RegaliaVotes" "moment" "LRegaliaVotes$Moment;", Cond.fieldLink RX7 75 "RegaliaVotes" "images" "[LRegaliaVotes$Moment;", Cond.fieldLink RX7 71 "RegaliaVotes" "past" "LRegaliaVotes$Past;", Cond.fieldLink RX7 162 "RegaliaVotes$Moment" "put" "I", Cond.methodLink RX7 269 yX7_noImage, Cond.static yX7_noImage, Cond.initialized RX7, Cond.code yX7_noImage cX7_noImage 1 (some .boolean), Cond.methodLink RX7 123 yX7_bit, Cond.static yX7_bit, Cond.code yX7_bit cX7_bit 2 (some .int), Cond.methodLink RX7 272 yX2_copyFrom, Cond.instanceMethod yX2_copyFrom, Cond.selects RX2 yX2_copyFrom yX2_copyFrom, Cond.initialized RX2, Cond.code yX2_copyFrom cX2_copyFrom 2 none, Cond.fieldLink RX2 9 "RegaliaVotes$Moment" "holder" "[I", Cond.methodLink RX2 39 arraycopyName, Cond.native arraycopyName, Cond.static arraycopyName, Cond.initialized "java/lang/System", Cond.fieldLink RX2 15 "RegaliaVotes$Moment" "warmth" "[I", Cond.fieldLink RX2 18 "RegaliaVotes$Moment" "wash" "I"]
def wsX7_back_r2 : List Cond := [Cond.fieldLink RX2 22 "RegaliaVotes$Moment" "turned" "I", Cond.fieldLink RX2 25 "RegaliaVotes$Moment" "sick" "I", Cond.fieldLink RX2 28 "RegaliaVotes$Moment" "put" "I", Cond.fieldLink RX2 31 "RegaliaVotes$Moment" "passed" "I", Cond.methodLink RX7 100 yX3_lose, Cond.instanceMethod yX3_lose, Cond.selects RX3 yX3_lose yX3_lose, Cond.initialized RX3, Cond.code yX3_lose cX3_lose 1 none, Cond.fieldLink RX3 21 "RegaliaVotes$Past" "known" "I"]
def wsX7_back : List Cond := .code yX7_back cX7_back 2 (some .int) :: ((wsX7_back_r1 ++ wsX7_back_r2) ++ wsX70 ++ wsX20 ++ wsX30)
def wsX7_count : List Cond := .code yX7_count cX7_count 2 (some .int) :: ([.fieldLink RX7 20 "RegaliaVotes" "told" "LRegaliaVotes$Council;", .fieldLink RX7 274 "RegaliaVotes$Council" "things" "I", .fieldLink RX7 277 "RegaliaVotes$Council" "officers" "I", .fieldLink RX7 189 "RegaliaVotes$Council" "warmth" "I", .fieldLink RX7 64 "RegaliaVotes" "minutes" "LRegaliaVotes$Minutes;", .fieldLink RX7 228 "RegaliaVotes$Minutes" "lines" "I", .fieldLink RX7 13 "RegaliaVotes" "letters" "I"] ++ wsX70 ++ wsX00 ++ wsX10)
def wsX7_trace : List Cond := .code yX7_trace cX7_trace 1 (some .long) :: ([.fieldLink RX7 82 "RegaliaVotes" "traced" "J"] ++ wsX70)
def wsX8_init : List Cond := .code yX8_init cX8_init 1 none :: ([.methodLink RX8 1 objectInit, .instanceMethod objectInit, .code objectInit ⟨#[0xb1]⟩ 1 none, .arrayClass .int, .fieldLink RX8 7 "RegaliaVotesModel" "text" "[I", .fieldLink RX8 13 "RegaliaVotesModel" "many" "[I", .fieldLink RX8 16 "RegaliaVotesModel" "sort" "[I", .fieldLink RX8 19 "RegaliaVotesModel" "votes" "[I", .fieldLink RX8 22 "RegaliaVotesModel" "bills" "[I", .fieldLink RX8 25 "RegaliaVotesModel" "holder" "[I", .fieldLink RX8 28 "RegaliaVotesModel" "s" "[I", .fieldLink RX8 31 "RegaliaVotesModel" "w" "[I", .fieldLink RX8 34 "RegaliaVotesModel" "kept" "[I", .arrayClass .boolean, .fieldLink RX8 37 "RegaliaVotesModel" "isKept" "[Z", .fieldLink RX8 41 "RegaliaVotesModel" "undos" "[I", .fieldLink RX8 44 "RegaliaVotesModel" "recordBill" "[I", .fieldLink RX8 47 "RegaliaVotesModel" "recordIs" "[I"] ++ wsX80)
def wsX8_in : List Cond := .code yX8_in cX8_in 3 (some .boolean) :: ([])
def wsX8_ones : List Cond := .code yX8_ones cX8_ones 3 (some .int) :: ([])
def wsX8_type : List Cond := .code yX8_type cX8_type 2 (some .int) :: ([.fieldLink RX8 50 "RegaliaVotesModel" "thrown" "I", .fieldLink RX8 58 "RegaliaVotesModel" "typed" "I", .fieldLink RX8 7 "RegaliaVotesModel" "text" "[I", .methodLink RX8 54 yX8_in, .static yX8_in, .initialized RX8, .code yX8_in cX8_in 3 (some .boolean)] ++ wsX80)
def wsX8_clear : List Cond := .code yX8_clear cX8_clear 2 (some .int) :: ([.fieldLink RX8 50 "RegaliaVotesModel" "thrown" "I", .fieldLink RX8 58 "RegaliaVotesModel" "typed" "I"] ++ wsX80)
def wsX8_letterAt : List Cond := .code yX8_letterAt cX8_letterAt 2 (some .int) :: ([.fieldLink RX8 58 "RegaliaVotesModel" "typed" "I", .fieldLink RX8 7 "RegaliaVotesModel" "text" "[I"] ++ wsX80)
def wsX8_advances : List Cond := .code yX8_advances cX8_advances 2 none :: ([.fieldLink RX8 61 "RegaliaVotesModel" "next" "I", .fieldLink RX8 68 "RegaliaVotesModel" "place" "I", .fieldLink RX8 71 "RegaliaVotesModel" "token" "I", .fieldLink RX8 74 "RegaliaVotesModel" "value" "I", .methodLink RX8 64 yX8_letterAt, .instanceMethod yX8_letterAt, .selects RX8 yX8_letterAt yX8_letterAt, .initialized RX8, .code yX8_letterAt cX8_letterAt 2 (some .int), .fieldLink RX8 58 "RegaliaVotesModel" "typed" "I", .fieldLink RX8 7 "RegaliaVotesModel" "text" "[I", .methodLink RX8 54 yX8_in, .static yX8_in, .code yX8_in cX8_in 3 (some .boolean)] ++ wsX80)
def wsX8_isWell : List Cond := .code yX8_isWell cX8_isWell 1 (some .boolean) :: ([.fieldLink RX8 77 "RegaliaVotesModel" "fault" "I"] ++ wsX80)
def wsX8_takes : List Cond := .code yX8_takes cX8_takes 3 (some .int) :: ([.fieldLink RX8 68 "RegaliaVotesModel" "place" "I", .fieldLink RX8 77 "RegaliaVotesModel" "fault" "I", .fieldLink RX8 74 "RegaliaVotesModel" "value" "I", .methodLink RX8 80 yX8_isWell, .instanceMethod yX8_isWell, .selects RX8 yX8_isWell yX8_isWell, .initialized RX8, .code yX8_isWell cX8_isWell 1 (some .boolean), .methodLink RX8 84 yX8_advances, .instanceMethod yX8_advances, .selects RX8 yX8_advances yX8_advances, .code yX8_advances cX8_advances 2 none, .fieldLink RX8 61 "RegaliaVotesModel" "next" "I", .fieldLink RX8 71 "RegaliaVotesModel" "token" "I", .methodLink RX8 64 yX8_letterAt, .instanceMethod yX8_letterAt, .selects RX8 yX8_letterAt yX8_letterAt, .code yX8_letterAt cX8_letterAt 2 (some .int), .fieldLink RX8 58 "RegaliaVotesModel" "typed" "I", .fieldLink RX8 7 "RegaliaVotesModel" "text" "[I", .methodLink RX8 54 yX8_in, .static yX8_in, .code yX8_in cX8_in 3 (some .boolean)] ++ wsX80)
def wsX8_number_r1 : List Cond := [Cond.fieldLink RX8 71 "RegaliaVotesModel" "token" "I", Cond.fieldLink RX8 74 "RegaliaVotesModel" "value" "I", Cond.methodLink RX8 54 yX8_in, Cond.static yX8_in, Cond.initialized RX8, Cond.code yX8_in cX8_in 3 (some .boolean), Cond.methodLink RX8 87 yX8_takes, Cond.instanceMethod yX8_takes, Cond.selects RX8 yX8_takes yX8_takes, Cond.code yX8_takes cX8_takes 3 (some .int), Cond.fieldLink RX8 68 "RegaliaVotesModel" "place" "I", Cond.fieldLink RX8 77 "RegaliaVotesModel" "fault" "I", Cond.methodLink RX8 80 yX8_isWell, Cond.instanceMethod yX8_isWell, Cond.selects RX8 yX8_isWell yX8_isWell, Cond.code yX8_isWell cX8_isWell 1 (some .boolean), Cond.methodLink RX8 84 yX8_advances, Cond.instanceMethod yX8_advances, Cond.selects RX8 yX8_advances yX8_advances, Cond.code yX8_advances cX8_advances 2 none, Cond.fieldLink RX8 61 "RegaliaVotesModel" "next" "I", Cond.methodLink RX8 64 yX8_letterAt, Cond.instanceMethod yX8_letterAt, Cond.selects RX8 yX8_letterAt yX8_letterAt]
def wsX8_number_r2 : List Cond := [Cond.code yX8_letterAt cX8_letterAt 2 (some .int), Cond.fieldLink RX8 58 "RegaliaVotesModel" "typed" "I", Cond.fieldLink RX8 7 "RegaliaVotesModel" "text" "[I"]
def wsX8_number : List Cond := .code yX8_number cX8_number 3 (some .int) :: ((wsX8_number_r1 ++ wsX8_number_r2) ++ wsX80)
def wsX8_readsItem_r1 : List Cond := [Cond.fieldLink RX8 13 "RegaliaVotesModel" "many" "[I", Cond.fieldLink RX8 16 "RegaliaVotesModel" "sort" "[I", Cond.fieldLink RX8 19 "RegaliaVotesModel" "votes" "[I", Cond.fieldLink RX8 22 "RegaliaVotesModel" "bills" "[I", Cond.fieldLink RX8 25 "RegaliaVotesModel" "holder" "[I", Cond.fieldLink RX8 95 "RegaliaVotesModel" "isWarmthTold" "Z", Cond.methodLink RX8 91 yX8_number, Cond.instanceMethod yX8_number, Cond.selects RX8 yX8_number yX8_number, Cond.initialized RX8, Cond.code yX8_number cX8_number 3 (some .int), Cond.fieldLink RX8 71 "RegaliaVotesModel" "token" "I", Cond.fieldLink RX8 74 "RegaliaVotesModel" "value" "I", Cond.methodLink RX8 54 yX8_in, Cond.static yX8_in, Cond.code yX8_in cX8_in 3 (some .boolean), Cond.methodLink RX8 87 yX8_takes, Cond.instanceMethod yX8_takes, Cond.selects RX8 yX8_takes yX8_takes, Cond.code yX8_takes cX8_takes 3 (some .int), Cond.fieldLink RX8 68 "RegaliaVotesModel" "place" "I", Cond.fieldLink RX8 77 "RegaliaVotesModel" "fault" "I", Cond.methodLink RX8 80 yX8_isWell, Cond.instanceMethod yX8_isWell]
def wsX8_readsItem_r2 : List Cond := [Cond.selects RX8 yX8_isWell yX8_isWell, Cond.code yX8_isWell cX8_isWell 1 (some .boolean), Cond.methodLink RX8 84 yX8_advances, Cond.instanceMethod yX8_advances, Cond.selects RX8 yX8_advances yX8_advances, Cond.code yX8_advances cX8_advances 2 none, Cond.fieldLink RX8 61 "RegaliaVotesModel" "next" "I", Cond.methodLink RX8 64 yX8_letterAt, Cond.instanceMethod yX8_letterAt, Cond.selects RX8 yX8_letterAt yX8_letterAt, Cond.code yX8_letterAt cX8_letterAt 2 (some .int), Cond.fieldLink RX8 58 "RegaliaVotesModel" "typed" "I", Cond.fieldLink RX8 7 "RegaliaVotesModel" "text" "[I"]
def wsX8_readsItem : List Cond := .code yX8_readsItem cX8_readsItem 3 none :: ((wsX8_readsItem_r1 ++ wsX8_readsItem_r2) ++ wsX80)
def wsX8_settles : List Cond := .code yX8_settles cX8_settles 2 none :: ([.fieldLink RX8 13 "RegaliaVotesModel" "many" "[I", .fieldLink RX8 28 "RegaliaVotesModel" "s" "[I", .fieldLink RX8 16 "RegaliaVotesModel" "sort" "[I", .fieldLink RX8 19 "RegaliaVotesModel" "votes" "[I", .fieldLink RX8 22 "RegaliaVotesModel" "bills" "[I", .fieldLink RX8 25 "RegaliaVotesModel" "holder" "[I", .fieldLink RX8 58 "RegaliaVotesModel" "typed" "I", .fieldLink RX8 106 "RegaliaVotesModel" "recordMany" "I", .fieldLink RX8 109 "RegaliaVotesModel" "undoMany" "I", .fieldLink RX8 37 "RegaliaVotesModel" "isKept" "[Z"] ++ wsX80)
def wsX8_council_r1 : List Cond := [Cond.fieldLink RX8 50 "RegaliaVotesModel" "thrown" "I", Cond.fieldLink RX8 77 "RegaliaVotesModel" "fault" "I", Cond.fieldLink RX8 61 "RegaliaVotesModel" "next" "I", Cond.fieldLink RX8 13 "RegaliaVotesModel" "many" "[I", Cond.fieldLink RX8 95 "RegaliaVotesModel" "isWarmthTold" "Z", Cond.fieldLink RX8 71 "RegaliaVotesModel" "token" "I", Cond.fieldLink RX8 74 "RegaliaVotesModel" "value" "I", Cond.methodLink RX8 84 yX8_advances, Cond.instanceMethod yX8_advances, Cond.selects RX8 yX8_advances yX8_advances, Cond.initialized RX8, Cond.code yX8_advances cX8_advances 2 none, Cond.fieldLink RX8 68 "RegaliaVotesModel" "place" "I", Cond.methodLink RX8 64 yX8_letterAt, Cond.instanceMethod yX8_letterAt, Cond.selects RX8 yX8_letterAt yX8_letterAt, Cond.code yX8_letterAt cX8_letterAt 2 (some .int), Cond.fieldLink RX8 58 "RegaliaVotesModel" "typed" "I", Cond.fieldLink RX8 7 "RegaliaVotesModel" "text" "[I", Cond.methodLink RX8 54 yX8_in, Cond.static yX8_in, Cond.code yX8_in cX8_in 3 (some .boolean), Cond.methodLink RX8 80 yX8_isWell, Cond.instanceMethod yX8_isWell]
def wsX8_council_r2 : List Cond := [Cond.selects RX8 yX8_isWell yX8_isWell, Cond.code yX8_isWell cX8_isWell 1 (some .boolean), Cond.methodLink RX8 87 yX8_takes, Cond.instanceMethod yX8_takes, Cond.selects RX8 yX8_takes yX8_takes, Cond.code yX8_takes cX8_takes 3 (some .int), Cond.methodLink RX8 99 yX8_readsItem, Cond.instanceMethod yX8_readsItem, Cond.selects RX8 yX8_readsItem yX8_readsItem, Cond.code yX8_readsItem cX8_readsItem 3 none, Cond.fieldLink RX8 16 "RegaliaVotesModel" "sort" "[I", Cond.fieldLink RX8 19 "RegaliaVotesModel" "votes" "[I", Cond.fieldLink RX8 22 "RegaliaVotesModel" "bills" "[I", Cond.fieldLink RX8 25 "RegaliaVotesModel" "holder" "[I", Cond.methodLink RX8 91 yX8_number, Cond.instanceMethod yX8_number, Cond.selects RX8 yX8_number yX8_number, Cond.code yX8_number cX8_number 3 (some .int), Cond.methodLink RX8 103 yX8_settles, Cond.instanceMethod yX8_settles, Cond.selects RX8 yX8_settles yX8_settles, Cond.code yX8_settles cX8_settles 2 none, Cond.fieldLink RX8 28 "RegaliaVotesModel" "s" "[I", Cond.fieldLink RX8 106 "RegaliaVotesModel" "recordMany" "I"]
def wsX8_council_r3 : List Cond := [Cond.fieldLink RX8 109 "RegaliaVotesModel" "undoMany" "I", Cond.fieldLink RX8 37 "RegaliaVotesModel" "isKept" "[Z"]
def wsX8_council : List Cond := .code yX8_council cX8_council 3 (some .int) :: ((wsX8_council_r1 ++ (wsX8_council_r2 ++ wsX8_council_r3)) ++ wsX80)
def wsX8_isThing : List Cond := .code yX8_isThing cX8_isThing 2 (some .boolean) :: ([.fieldLink RX8 13 "RegaliaVotesModel" "many" "[I", .methodLink RX8 54 yX8_in, .static yX8_in, .initialized RX8, .code yX8_in cX8_in 3 (some .boolean)] ++ wsX80)
def wsX8_isOfficer : List Cond := .code yX8_isOfficer cX8_isOfficer 2 (some .boolean) :: ([.fieldLink RX8 13 "RegaliaVotesModel" "many" "[I", .methodLink RX8 54 yX8_in, .static yX8_in, .initialized RX8, .code yX8_in cX8_in 3 (some .boolean)] ++ wsX80)
def wsX8_isBill : List Cond := .code yX8_isBill cX8_isBill 1 (some .boolean) :: ([.methodLink RX8 54 yX8_in, .static yX8_in, .initialized RX8, .code yX8_in cX8_in 3 (some .boolean)])
def wsX8_speaks : List Cond := .code yX8_speaks cX8_speaks 4 (some .boolean) :: ([.fieldLink RX8 16 "RegaliaVotesModel" "sort" "[I"] ++ wsX80)
def wsX8_voices : List Cond := .code yX8_voices cX8_voices 4 (some .int) :: ([.fieldLink RX8 13 "RegaliaVotesModel" "many" "[I", .methodLink RX8 112 yX8_speaks, .instanceMethod yX8_speaks, .selects RX8 yX8_speaks yX8_speaks, .initialized RX8, .code yX8_speaks cX8_speaks 4 (some .boolean), .fieldLink RX8 16 "RegaliaVotesModel" "sort" "[I"] ++ wsX80)
def wsX8_saysYes : List Cond := .code yX8_saysYes cX8_saysYes 5 (some .int) :: ([.fieldLink RX8 13 "RegaliaVotesModel" "many" "[I", .fieldLink RX8 22 "RegaliaVotesModel" "bills" "[I"] ++ wsX80)
def wsX8_votesOf : List Cond := .code yX8_votesOf cX8_votesOf 4 (some .int) :: ([.fieldLink RX8 13 "RegaliaVotesModel" "many" "[I", .fieldLink RX8 19 "RegaliaVotesModel" "votes" "[I"] ++ wsX80)
def wsX8_passesBy : List Cond := .code yX8_passesBy cX8_passesBy 3 (some .boolean) :: ([.methodLink RX8 116 yX8_votesOf, .instanceMethod yX8_votesOf, .selects RX8 yX8_votesOf yX8_votesOf, .initialized RX8, .code yX8_votesOf cX8_votesOf 4 (some .int), .fieldLink RX8 13 "RegaliaVotesModel" "many" "[I", .fieldLink RX8 19 "RegaliaVotesModel" "votes" "[I"] ++ wsX80)
def wsX8_passes_r1 : List Cond := [Cond.methodLink RX8 119 yX8_voices, Cond.instanceMethod yX8_voices, Cond.selects RX8 yX8_voices yX8_voices, Cond.initialized RX8, Cond.code yX8_voices cX8_voices 4 (some .int), Cond.fieldLink RX8 13 "RegaliaVotesModel" "many" "[I", Cond.methodLink RX8 112 yX8_speaks, Cond.instanceMethod yX8_speaks, Cond.selects RX8 yX8_speaks yX8_speaks, Cond.code yX8_speaks cX8_speaks 4 (some .boolean), Cond.fieldLink RX8 16 "RegaliaVotesModel" "sort" "[I", Cond.methodLink RX8 123 yX8_saysYes, Cond.instanceMethod yX8_saysYes, Cond.selects RX8 yX8_saysYes yX8_saysYes, Cond.code yX8_saysYes cX8_saysYes 5 (some .int), Cond.fieldLink RX8 22 "RegaliaVotesModel" "bills" "[I", Cond.methodLink RX8 127 yX8_passesBy, Cond.instanceMethod yX8_passesBy, Cond.selects RX8 yX8_passesBy yX8_passesBy, Cond.code yX8_passesBy cX8_passesBy 3 (some .boolean), Cond.methodLink RX8 116 yX8_votesOf, Cond.instanceMethod yX8_votesOf, Cond.selects RX8 yX8_votesOf yX8_votesOf, Cond.code yX8_votesOf cX8_votesOf 4 (some .int)]
def wsX8_passes_r2 : List Cond := [Cond.fieldLink RX8 19 "RegaliaVotesModel" "votes" "[I"]
def wsX8_passes : List Cond := .code yX8_passes cX8_passes 3 (some .boolean) :: ((wsX8_passes_r1 ++ wsX8_passes_r2) ++ wsX80)
def wsX8_thing : List Cond := .code yX8_thing cX8_thing 3 (some .int) :: ([.fieldLink RX8 50 "RegaliaVotesModel" "thrown" "I", .fieldLink RX8 16 "RegaliaVotesModel" "sort" "[I", .fieldLink RX8 19 "RegaliaVotesModel" "votes" "[I", .fieldLink RX8 22 "RegaliaVotesModel" "bills" "[I", .fieldLink RX8 28 "RegaliaVotesModel" "s" "[I", .methodLink RX8 131 yX8_isThing, .instanceMethod yX8_isThing, .selects RX8 yX8_isThing yX8_isThing, .initialized RX8, .code yX8_isThing cX8_isThing 2 (some .boolean), .fieldLink RX8 13 "RegaliaVotesModel" "many" "[I", .methodLink RX8 54 yX8_in, .static yX8_in, .code yX8_in cX8_in 3 (some .boolean), .methodLink RX8 112 yX8_speaks, .instanceMethod yX8_speaks, .selects RX8 yX8_speaks yX8_speaks, .code yX8_speaks cX8_speaks 4 (some .boolean)] ++ wsX80)
def wsX8_heldBy : List Cond := .code yX8_heldBy cX8_heldBy 4 (some .int) :: ([.fieldLink RX8 13 "RegaliaVotesModel" "many" "[I", .fieldLink RX8 28 "RegaliaVotesModel" "s" "[I"] ++ wsX80)
def wsX8_officer_r1 : List Cond := [Cond.fieldLink RX8 50 "RegaliaVotesModel" "thrown" "I", Cond.fieldLink RX8 28 "RegaliaVotesModel" "s" "[I", Cond.methodLink RX8 135 yX8_isOfficer, Cond.instanceMethod yX8_isOfficer, Cond.selects RX8 yX8_isOfficer yX8_isOfficer, Cond.initialized RX8, Cond.code yX8_isOfficer cX8_isOfficer 2 (some .boolean), Cond.fieldLink RX8 13 "RegaliaVotesModel" "many" "[I", Cond.methodLink RX8 54 yX8_in, Cond.static yX8_in, Cond.code yX8_in cX8_in 3 (some .boolean), Cond.methodLink RX8 138 yX8_heldBy, Cond.instanceMethod yX8_heldBy, Cond.selects RX8 yX8_heldBy yX8_heldBy, Cond.code yX8_heldBy cX8_heldBy 4 (some .int), Cond.methodLink RX8 119 yX8_voices, Cond.instanceMethod yX8_voices, Cond.selects RX8 yX8_voices yX8_voices, Cond.code yX8_voices cX8_voices 4 (some .int), Cond.methodLink RX8 112 yX8_speaks, Cond.instanceMethod yX8_speaks, Cond.selects RX8 yX8_speaks yX8_speaks, Cond.code yX8_speaks cX8_speaks 4 (some .boolean), Cond.fieldLink RX8 16 "RegaliaVotesModel" "sort" "[I"]
def wsX8_officer_r2 : List Cond := [Cond.methodLink RX8 116 yX8_votesOf, Cond.instanceMethod yX8_votesOf, Cond.selects RX8 yX8_votesOf yX8_votesOf, Cond.code yX8_votesOf cX8_votesOf 4 (some .int), Cond.fieldLink RX8 19 "RegaliaVotesModel" "votes" "[I"]
def wsX8_officer : List Cond := .code yX8_officer cX8_officer 3 (some .int) :: ((wsX8_officer_r1 ++ wsX8_officer_r2) ++ wsX80)
def wsX8_bill_r1 : List Cond := [Cond.fieldLink RX8 50 "RegaliaVotesModel" "thrown" "I", Cond.fieldLink RX8 28 "RegaliaVotesModel" "s" "[I", Cond.methodLink RX8 141 yX8_isBill, Cond.static yX8_isBill, Cond.initialized RX8, Cond.code yX8_isBill cX8_isBill 1 (some .boolean), Cond.methodLink RX8 54 yX8_in, Cond.static yX8_in, Cond.code yX8_in cX8_in 3 (some .boolean), Cond.methodLink RX8 119 yX8_voices, Cond.instanceMethod yX8_voices, Cond.selects RX8 yX8_voices yX8_voices, Cond.code yX8_voices cX8_voices 4 (some .int), Cond.fieldLink RX8 13 "RegaliaVotesModel" "many" "[I", Cond.methodLink RX8 112 yX8_speaks, Cond.instanceMethod yX8_speaks, Cond.selects RX8 yX8_speaks yX8_speaks, Cond.code yX8_speaks cX8_speaks 4 (some .boolean), Cond.fieldLink RX8 16 "RegaliaVotesModel" "sort" "[I", Cond.methodLink RX8 123 yX8_saysYes, Cond.instanceMethod yX8_saysYes, Cond.selects RX8 yX8_saysYes yX8_saysYes, Cond.code yX8_saysYes cX8_saysYes 5 (some .int), Cond.fieldLink RX8 22 "RegaliaVotesModel" "bills" "[I"]
def wsX8_bill_r2 : List Cond := [Cond.methodLink RX8 116 yX8_votesOf, Cond.instanceMethod yX8_votesOf, Cond.selects RX8 yX8_votesOf yX8_votesOf, Cond.code yX8_votesOf cX8_votesOf 4 (some .int), Cond.fieldLink RX8 19 "RegaliaVotesModel" "votes" "[I", Cond.methodLink RX8 144 yX8_passes, Cond.instanceMethod yX8_passes, Cond.selects RX8 yX8_passes yX8_passes, Cond.code yX8_passes cX8_passes 3 (some .boolean), Cond.methodLink RX8 127 yX8_passesBy, Cond.instanceMethod yX8_passesBy, Cond.selects RX8 yX8_passesBy yX8_passesBy, Cond.code yX8_passesBy cX8_passesBy 3 (some .boolean)]
def wsX8_bill : List Cond := .code yX8_bill cX8_bill 5 (some .int) :: ((wsX8_bill_r1 ++ wsX8_bill_r2) ++ wsX80)
def wsX8_most : List Cond := .code yX8_most cX8_most 3 (some .int) :: ([.fieldLink RX8 13 "RegaliaVotesModel" "many" "[I", .fieldLink RX8 28 "RegaliaVotesModel" "s" "[I", .methodLink RX8 138 yX8_heldBy, .instanceMethod yX8_heldBy, .selects RX8 yX8_heldBy yX8_heldBy, .initialized RX8, .code yX8_heldBy cX8_heldBy 4 (some .int), .methodLink RX8 119 yX8_voices, .instanceMethod yX8_voices, .selects RX8 yX8_voices yX8_voices, .code yX8_voices cX8_voices 4 (some .int), .methodLink RX8 112 yX8_speaks, .instanceMethod yX8_speaks, .selects RX8 yX8_speaks yX8_speaks, .code yX8_speaks cX8_speaks 4 (some .boolean), .fieldLink RX8 16 "RegaliaVotesModel" "sort" "[I", .methodLink RX8 116 yX8_votesOf, .instanceMethod yX8_votesOf, .selects RX8 yX8_votesOf yX8_votesOf, .code yX8_votesOf cX8_votesOf 4 (some .int), .fieldLink RX8 19 "RegaliaVotesModel" "votes" "[I"] ++ wsX80)
def wsX8_now_r1 : List Cond := [Cond.fieldLink RX8 50 "RegaliaVotesModel" "thrown" "I", Cond.fieldLink RX8 28 "RegaliaVotesModel" "s" "[I", Cond.fieldLink RX8 109 "RegaliaVotesModel" "undoMany" "I", Cond.methodLink RX8 54 yX8_in, Cond.static yX8_in, Cond.initialized RX8, Cond.code yX8_in cX8_in 3 (some .boolean), Cond.methodLink RX8 119 yX8_voices, Cond.instanceMethod yX8_voices, Cond.selects RX8 yX8_voices yX8_voices, Cond.code yX8_voices cX8_voices 4 (some .int), Cond.fieldLink RX8 13 "RegaliaVotesModel" "many" "[I", Cond.methodLink RX8 112 yX8_speaks, Cond.instanceMethod yX8_speaks, Cond.selects RX8 yX8_speaks yX8_speaks, Cond.code yX8_speaks cX8_speaks 4 (some .boolean), Cond.fieldLink RX8 16 "RegaliaVotesModel" "sort" "[I", Cond.methodLink RX8 147 yX8_most, Cond.instanceMethod yX8_most, Cond.selects RX8 yX8_most yX8_most, Cond.code yX8_most cX8_most 3 (some .int), Cond.methodLink RX8 138 yX8_heldBy, Cond.instanceMethod yX8_heldBy, Cond.selects RX8 yX8_heldBy yX8_heldBy]
def wsX8_now_r2 : List Cond := [Cond.code yX8_heldBy cX8_heldBy 4 (some .int), Cond.methodLink RX8 116 yX8_votesOf, Cond.instanceMethod yX8_votesOf, Cond.selects RX8 yX8_votesOf yX8_votesOf, Cond.code yX8_votesOf cX8_votesOf 4 (some .int), Cond.fieldLink RX8 19 "RegaliaVotesModel" "votes" "[I"]
def wsX8_now : List Cond := .code yX8_now cX8_now 2 (some .int) :: ((wsX8_now_r1 ++ wsX8_now_r2) ++ wsX80)
def wsX8_notes : List Cond := .code yX8_notes cX8_notes 2 none :: ([.fieldLink RX8 109 "RegaliaVotesModel" "undoMany" "I", .fieldLink RX8 41 "RegaliaVotesModel" "undos" "[I", .fieldLink RX8 28 "RegaliaVotesModel" "s" "[I"] ++ wsX80)
def wsX8_puts_r1 : List Cond := [Cond.fieldLink RX8 50 "RegaliaVotesModel" "thrown" "I", Cond.fieldLink RX8 28 "RegaliaVotesModel" "s" "[I", Cond.fieldLink RX8 13 "RegaliaVotesModel" "many" "[I", Cond.methodLink RX8 141 yX8_isBill, Cond.static yX8_isBill, Cond.initialized RX8, Cond.code yX8_isBill cX8_isBill 1 (some .boolean), Cond.methodLink RX8 54 yX8_in, Cond.static yX8_in, Cond.code yX8_in cX8_in 3 (some .boolean), Cond.methodLink RX8 151 yX8_notes, Cond.instanceMethod yX8_notes, Cond.selects RX8 yX8_notes yX8_notes, Cond.code yX8_notes cX8_notes 2 none, Cond.fieldLink RX8 109 "RegaliaVotesModel" "undoMany" "I", Cond.fieldLink RX8 41 "RegaliaVotesModel" "undos" "[I", Cond.methodLink RX8 144 yX8_passes, Cond.instanceMethod yX8_passes, Cond.selects RX8 yX8_passes yX8_passes, Cond.code yX8_passes cX8_passes 3 (some .boolean), Cond.methodLink RX8 119 yX8_voices, Cond.instanceMethod yX8_voices, Cond.selects RX8 yX8_voices yX8_voices, Cond.code yX8_voices cX8_voices 4 (some .int)]
def wsX8_puts_r2 : List Cond := [Cond.methodLink RX8 112 yX8_speaks, Cond.instanceMethod yX8_speaks, Cond.selects RX8 yX8_speaks yX8_speaks, Cond.code yX8_speaks cX8_speaks 4 (some .boolean), Cond.fieldLink RX8 16 "RegaliaVotesModel" "sort" "[I", Cond.methodLink RX8 123 yX8_saysYes, Cond.instanceMethod yX8_saysYes, Cond.selects RX8 yX8_saysYes yX8_saysYes, Cond.code yX8_saysYes cX8_saysYes 5 (some .int), Cond.fieldLink RX8 22 "RegaliaVotesModel" "bills" "[I", Cond.methodLink RX8 127 yX8_passesBy, Cond.instanceMethod yX8_passesBy, Cond.selects RX8 yX8_passesBy yX8_passesBy, Cond.code yX8_passesBy cX8_passesBy 3 (some .boolean), Cond.methodLink RX8 116 yX8_votesOf, Cond.instanceMethod yX8_votesOf, Cond.selects RX8 yX8_votesOf yX8_votesOf, Cond.code yX8_votesOf cX8_votesOf 4 (some .int), Cond.fieldLink RX8 19 "RegaliaVotesModel" "votes" "[I"]
def wsX8_puts : List Cond := .code yX8_puts cX8_puts 4 (some .int) :: ((wsX8_puts_r1 ++ wsX8_puts_r2) ++ wsX80)
def wsX8_hands : List Cond := .code yX8_hands cX8_hands 4 (some .int) :: ([.fieldLink RX8 50 "RegaliaVotesModel" "thrown" "I", .fieldLink RX8 28 "RegaliaVotesModel" "s" "[I", .methodLink RX8 131 yX8_isThing, .instanceMethod yX8_isThing, .selects RX8 yX8_isThing yX8_isThing, .initialized RX8, .code yX8_isThing cX8_isThing 2 (some .boolean), .fieldLink RX8 13 "RegaliaVotesModel" "many" "[I", .methodLink RX8 54 yX8_in, .static yX8_in, .code yX8_in cX8_in 3 (some .boolean), .methodLink RX8 135 yX8_isOfficer, .instanceMethod yX8_isOfficer, .selects RX8 yX8_isOfficer yX8_isOfficer, .code yX8_isOfficer cX8_isOfficer 2 (some .boolean), .methodLink RX8 151 yX8_notes, .instanceMethod yX8_notes, .selects RX8 yX8_notes yX8_notes, .code yX8_notes cX8_notes 2 none, .fieldLink RX8 109 "RegaliaVotesModel" "undoMany" "I", .fieldLink RX8 41 "RegaliaVotesModel" "undos" "[I"] ++ wsX80)
def wsX8_washes : List Cond := .code yX8_washes cX8_washes 2 (some .int) :: ([.fieldLink RX8 50 "RegaliaVotesModel" "thrown" "I", .fieldLink RX8 28 "RegaliaVotesModel" "s" "[I", .methodLink RX8 131 yX8_isThing, .instanceMethod yX8_isThing, .selects RX8 yX8_isThing yX8_isThing, .initialized RX8, .code yX8_isThing cX8_isThing 2 (some .boolean), .fieldLink RX8 13 "RegaliaVotesModel" "many" "[I", .methodLink RX8 54 yX8_in, .static yX8_in, .code yX8_in cX8_in 3 (some .boolean), .methodLink RX8 151 yX8_notes, .instanceMethod yX8_notes, .selects RX8 yX8_notes yX8_notes, .code yX8_notes cX8_notes 2 none, .fieldLink RX8 109 "RegaliaVotesModel" "undoMany" "I", .fieldLink RX8 41 "RegaliaVotesModel" "undos" "[I", .methodLink RX8 154 yX8_ones, .static yX8_ones, .code yX8_ones cX8_ones 3 (some .int)] ++ wsX80)
def wsX8_hangs : List Cond := .code yX8_hangs cX8_hangs 2 (some .int) :: ([.fieldLink RX8 50 "RegaliaVotesModel" "thrown" "I", .fieldLink RX8 28 "RegaliaVotesModel" "s" "[I", .fieldLink RX8 16 "RegaliaVotesModel" "sort" "[I", .methodLink RX8 131 yX8_isThing, .instanceMethod yX8_isThing, .selects RX8 yX8_isThing yX8_isThing, .initialized RX8, .code yX8_isThing cX8_isThing 2 (some .boolean), .fieldLink RX8 13 "RegaliaVotesModel" "many" "[I", .methodLink RX8 54 yX8_in, .static yX8_in, .code yX8_in cX8_in 3 (some .boolean), .methodLink RX8 151 yX8_notes, .instanceMethod yX8_notes, .selects RX8 yX8_notes yX8_notes, .code yX8_notes cX8_notes 2 none, .fieldLink RX8 109 "RegaliaVotesModel" "undoMany" "I", .fieldLink RX8 41 "RegaliaVotesModel" "undos" "[I"] ++ wsX80)
def wsX8_warms : List Cond := .code yX8_warms cX8_warms 3 (some .int) :: ([.fieldLink RX8 50 "RegaliaVotesModel" "thrown" "I", .fieldLink RX8 16 "RegaliaVotesModel" "sort" "[I", .fieldLink RX8 28 "RegaliaVotesModel" "s" "[I", .fieldLink RX8 13 "RegaliaVotesModel" "many" "[I", .methodLink RX8 131 yX8_isThing, .instanceMethod yX8_isThing, .selects RX8 yX8_isThing yX8_isThing, .initialized RX8, .code yX8_isThing cX8_isThing 2 (some .boolean), .methodLink RX8 54 yX8_in, .static yX8_in, .code yX8_in cX8_in 3 (some .boolean), .methodLink RX8 151 yX8_notes, .instanceMethod yX8_notes, .selects RX8 yX8_notes yX8_notes, .code yX8_notes cX8_notes 2 none, .fieldLink RX8 109 "RegaliaVotesModel" "undoMany" "I", .fieldLink RX8 41 "RegaliaVotesModel" "undos" "[I"] ++ wsX80)
def wsX8_sickens : List Cond := .code yX8_sickens cX8_sickens 4 (some .int) :: ([.fieldLink RX8 50 "RegaliaVotesModel" "thrown" "I", .fieldLink RX8 28 "RegaliaVotesModel" "s" "[I", .methodLink RX8 135 yX8_isOfficer, .instanceMethod yX8_isOfficer, .selects RX8 yX8_isOfficer yX8_isOfficer, .initialized RX8, .code yX8_isOfficer cX8_isOfficer 2 (some .boolean), .fieldLink RX8 13 "RegaliaVotesModel" "many" "[I", .methodLink RX8 54 yX8_in, .static yX8_in, .code yX8_in cX8_in 3 (some .boolean), .methodLink RX8 151 yX8_notes, .instanceMethod yX8_notes, .selects RX8 yX8_notes yX8_notes, .code yX8_notes cX8_notes 2 none, .fieldLink RX8 109 "RegaliaVotesModel" "undoMany" "I", .fieldLink RX8 41 "RegaliaVotesModel" "undos" "[I"] ++ wsX80)
def wsX8_undo : List Cond := .code yX8_undo cX8_undo 2 (some .int) :: ([.fieldLink RX8 50 "RegaliaVotesModel" "thrown" "I", .fieldLink RX8 109 "RegaliaVotesModel" "undoMany" "I", .fieldLink RX8 28 "RegaliaVotesModel" "s" "[I", .fieldLink RX8 41 "RegaliaVotesModel" "undos" "[I"] ++ wsX80)
def wsX8_carries : List Cond := .code yX8_carries cX8_carries 2 (some .boolean) :: ([.fieldLink RX8 28 "RegaliaVotesModel" "s" "[I", .methodLink RX8 116 yX8_votesOf, .instanceMethod yX8_votesOf, .selects RX8 yX8_votesOf yX8_votesOf, .initialized RX8, .code yX8_votesOf cX8_votesOf 4 (some .int), .fieldLink RX8 13 "RegaliaVotesModel" "many" "[I", .fieldLink RX8 19 "RegaliaVotesModel" "votes" "[I", .methodLink RX8 119 yX8_voices, .instanceMethod yX8_voices, .selects RX8 yX8_voices yX8_voices, .code yX8_voices cX8_voices 4 (some .int), .methodLink RX8 112 yX8_speaks, .instanceMethod yX8_speaks, .selects RX8 yX8_speaks yX8_speaks, .code yX8_speaks cX8_speaks 4 (some .boolean), .fieldLink RX8 16 "RegaliaVotesModel" "sort" "[I"] ++ wsX80)
def wsX8_orders : List Cond := .code yX8_orders cX8_orders 3 (some .int) :: ([])
def wsX8_decides_r1 : List Cond := [Cond.fieldLink RX8 28 "RegaliaVotesModel" "s" "[I", Cond.methodLink RX8 119 yX8_voices, Cond.instanceMethod yX8_voices, Cond.selects RX8 yX8_voices yX8_voices, Cond.initialized RX8, Cond.code yX8_voices cX8_voices 4 (some .int), Cond.fieldLink RX8 13 "RegaliaVotesModel" "many" "[I", Cond.methodLink RX8 112 yX8_speaks, Cond.instanceMethod yX8_speaks, Cond.selects RX8 yX8_speaks yX8_speaks, Cond.code yX8_speaks cX8_speaks 4 (some .boolean), Cond.fieldLink RX8 16 "RegaliaVotesModel" "sort" "[I", Cond.methodLink RX8 157 yX8_carries, Cond.instanceMethod yX8_carries, Cond.selects RX8 yX8_carries yX8_carries, Cond.code yX8_carries cX8_carries 2 (some .boolean), Cond.methodLink RX8 116 yX8_votesOf, Cond.instanceMethod yX8_votesOf, Cond.selects RX8 yX8_votesOf yX8_votesOf, Cond.code yX8_votesOf cX8_votesOf 4 (some .int), Cond.fieldLink RX8 19 "RegaliaVotesModel" "votes" "[I", Cond.methodLink RX8 154 yX8_ones, Cond.static yX8_ones, Cond.code yX8_ones cX8_ones 3 (some .int)]
def wsX8_decides_r2 : List Cond := [Cond.methodLink RX8 160 yX8_orders, Cond.static yX8_orders, Cond.code yX8_orders cX8_orders 3 (some .int)]
def wsX8_decides : List Cond := .code yX8_decides cX8_decides 6 (some .int) :: ((wsX8_decides_r1 ++ wsX8_decides_r2) ++ wsX80)
def wsX8_gcd : List Cond := .code yX8_gcd cX8_gcd 5 (some .int) :: ([])
def wsX8_power_r1 : List Cond := [Cond.fieldLink RX8 50 "RegaliaVotesModel" "thrown" "I", Cond.fieldLink RX8 28 "RegaliaVotesModel" "s" "[I", Cond.methodLink RX8 131 yX8_isThing, Cond.instanceMethod yX8_isThing, Cond.selects RX8 yX8_isThing yX8_isThing, Cond.initialized RX8, Cond.code yX8_isThing cX8_isThing 2 (some .boolean), Cond.fieldLink RX8 13 "RegaliaVotesModel" "many" "[I", Cond.methodLink RX8 54 yX8_in, Cond.static yX8_in, Cond.code yX8_in cX8_in 3 (some .boolean), Cond.methodLink RX8 112 yX8_speaks, Cond.instanceMethod yX8_speaks, Cond.selects RX8 yX8_speaks yX8_speaks, Cond.code yX8_speaks cX8_speaks 4 (some .boolean), Cond.fieldLink RX8 16 "RegaliaVotesModel" "sort" "[I", Cond.methodLink RX8 163 yX8_decides, Cond.instanceMethod yX8_decides, Cond.selects RX8 yX8_decides yX8_decides, Cond.code yX8_decides cX8_decides 6 (some .int), Cond.methodLink RX8 119 yX8_voices, Cond.instanceMethod yX8_voices, Cond.selects RX8 yX8_voices yX8_voices, Cond.code yX8_voices cX8_voices 4 (some .int)]
def wsX8_power_r2 : List Cond := [Cond.methodLink RX8 157 yX8_carries, Cond.instanceMethod yX8_carries, Cond.selects RX8 yX8_carries yX8_carries, Cond.code yX8_carries cX8_carries 2 (some .boolean), Cond.methodLink RX8 116 yX8_votesOf, Cond.instanceMethod yX8_votesOf, Cond.selects RX8 yX8_votesOf yX8_votesOf, Cond.code yX8_votesOf cX8_votesOf 4 (some .int), Cond.fieldLink RX8 19 "RegaliaVotesModel" "votes" "[I", Cond.methodLink RX8 154 yX8_ones, Cond.static yX8_ones, Cond.code yX8_ones cX8_ones 3 (some .int), Cond.methodLink RX8 160 yX8_orders, Cond.static yX8_orders, Cond.code yX8_orders cX8_orders 3 (some .int), Cond.methodLink RX8 166 yX8_gcd, Cond.static yX8_gcd, Cond.code yX8_gcd cX8_gcd 5 (some .int)]
def wsX8_power : List Cond := .code yX8_power cX8_power 6 (some .int) :: ((wsX8_power_r1 ++ wsX8_power_r2) ++ wsX80)
def wsX8_isLeast : List Cond := .code yX8_isLeast cX8_isLeast 4 (some .boolean) :: ([.fieldLink RX8 28 "RegaliaVotesModel" "s" "[I", .fieldLink RX8 13 "RegaliaVotesModel" "many" "[I", .methodLink RX8 119 yX8_voices, .instanceMethod yX8_voices, .selects RX8 yX8_voices yX8_voices, .initialized RX8, .code yX8_voices cX8_voices 4 (some .int), .methodLink RX8 112 yX8_speaks, .instanceMethod yX8_speaks, .selects RX8 yX8_speaks yX8_speaks, .code yX8_speaks cX8_speaks 4 (some .boolean), .fieldLink RX8 16 "RegaliaVotesModel" "sort" "[I", .methodLink RX8 157 yX8_carries, .instanceMethod yX8_carries, .selects RX8 yX8_carries yX8_carries, .code yX8_carries cX8_carries 2 (some .boolean), .methodLink RX8 116 yX8_votesOf, .instanceMethod yX8_votesOf, .selects RX8 yX8_votesOf yX8_votesOf, .code yX8_votesOf cX8_votesOf 4 (some .int), .fieldLink RX8 19 "RegaliaVotesModel" "votes" "[I"] ++ wsX80)
def wsX8_least_r1 : List Cond := [Cond.fieldLink RX8 50 "RegaliaVotesModel" "thrown" "I", Cond.methodLink RX8 54 yX8_in, Cond.static yX8_in, Cond.initialized RX8, Cond.code yX8_in cX8_in 3 (some .boolean), Cond.methodLink RX8 169 yX8_isLeast, Cond.instanceMethod yX8_isLeast, Cond.selects RX8 yX8_isLeast yX8_isLeast, Cond.code yX8_isLeast cX8_isLeast 4 (some .boolean), Cond.fieldLink RX8 28 "RegaliaVotesModel" "s" "[I", Cond.fieldLink RX8 13 "RegaliaVotesModel" "many" "[I", Cond.methodLink RX8 119 yX8_voices, Cond.instanceMethod yX8_voices, Cond.selects RX8 yX8_voices yX8_voices, Cond.code yX8_voices cX8_voices 4 (some .int), Cond.methodLink RX8 112 yX8_speaks, Cond.instanceMethod yX8_speaks, Cond.selects RX8 yX8_speaks yX8_speaks, Cond.code yX8_speaks cX8_speaks 4 (some .boolean), Cond.fieldLink RX8 16 "RegaliaVotesModel" "sort" "[I", Cond.methodLink RX8 157 yX8_carries, Cond.instanceMethod yX8_carries, Cond.selects RX8 yX8_carries yX8_carries, Cond.code yX8_carries cX8_carries 2 (some .boolean)]
def wsX8_least_r2 : List Cond := [Cond.methodLink RX8 116 yX8_votesOf, Cond.instanceMethod yX8_votesOf, Cond.selects RX8 yX8_votesOf yX8_votesOf, Cond.code yX8_votesOf cX8_votesOf 4 (some .int), Cond.fieldLink RX8 19 "RegaliaVotesModel" "votes" "[I"]
def wsX8_least : List Cond := .code yX8_least cX8_least 5 (some .int) :: ((wsX8_least_r1 ++ wsX8_least_r2) ++ wsX80)
def wsX8_dummies_r1 : List Cond := [Cond.fieldLink RX8 50 "RegaliaVotesModel" "thrown" "I", Cond.fieldLink RX8 13 "RegaliaVotesModel" "many" "[I", Cond.fieldLink RX8 28 "RegaliaVotesModel" "s" "[I", Cond.methodLink RX8 112 yX8_speaks, Cond.instanceMethod yX8_speaks, Cond.selects RX8 yX8_speaks yX8_speaks, Cond.initialized RX8, Cond.code yX8_speaks cX8_speaks 4 (some .boolean), Cond.fieldLink RX8 16 "RegaliaVotesModel" "sort" "[I", Cond.methodLink RX8 163 yX8_decides, Cond.instanceMethod yX8_decides, Cond.selects RX8 yX8_decides yX8_decides, Cond.code yX8_decides cX8_decides 6 (some .int), Cond.methodLink RX8 119 yX8_voices, Cond.instanceMethod yX8_voices, Cond.selects RX8 yX8_voices yX8_voices, Cond.code yX8_voices cX8_voices 4 (some .int), Cond.methodLink RX8 157 yX8_carries, Cond.instanceMethod yX8_carries, Cond.selects RX8 yX8_carries yX8_carries, Cond.code yX8_carries cX8_carries 2 (some .boolean), Cond.methodLink RX8 116 yX8_votesOf, Cond.instanceMethod yX8_votesOf, Cond.selects RX8 yX8_votesOf yX8_votesOf]
def wsX8_dummies_r2 : List Cond := [Cond.code yX8_votesOf cX8_votesOf 4 (some .int), Cond.fieldLink RX8 19 "RegaliaVotesModel" "votes" "[I", Cond.methodLink RX8 154 yX8_ones, Cond.static yX8_ones, Cond.code yX8_ones cX8_ones 3 (some .int), Cond.methodLink RX8 160 yX8_orders, Cond.static yX8_orders, Cond.code yX8_orders cX8_orders 3 (some .int)]
def wsX8_dummies : List Cond := .code yX8_dummies cX8_dummies 3 (some .int) :: ((wsX8_dummies_r1 ++ wsX8_dummies_r2) ++ wsX80)
def wsX8_swaysOf_r1 : List Cond := [Cond.fieldLink RX8 28 "RegaliaVotesModel" "s" "[I", Cond.fieldLink RX8 13 "RegaliaVotesModel" "many" "[I", Cond.methodLink RX8 119 yX8_voices, Cond.instanceMethod yX8_voices, Cond.selects RX8 yX8_voices yX8_voices, Cond.initialized RX8, Cond.code yX8_voices cX8_voices 4 (some .int), Cond.methodLink RX8 112 yX8_speaks, Cond.instanceMethod yX8_speaks, Cond.selects RX8 yX8_speaks yX8_speaks, Cond.code yX8_speaks cX8_speaks 4 (some .boolean), Cond.fieldLink RX8 16 "RegaliaVotesModel" "sort" "[I", Cond.methodLink RX8 123 yX8_saysYes, Cond.instanceMethod yX8_saysYes, Cond.selects RX8 yX8_saysYes yX8_saysYes, Cond.code yX8_saysYes cX8_saysYes 5 (some .int), Cond.fieldLink RX8 22 "RegaliaVotesModel" "bills" "[I", Cond.methodLink RX8 127 yX8_passesBy, Cond.instanceMethod yX8_passesBy, Cond.selects RX8 yX8_passesBy yX8_passesBy, Cond.code yX8_passesBy cX8_passesBy 3 (some .boolean), Cond.methodLink RX8 116 yX8_votesOf, Cond.instanceMethod yX8_votesOf, Cond.selects RX8 yX8_votesOf yX8_votesOf]
def wsX8_swaysOf_r2 : List Cond := [Cond.code yX8_votesOf cX8_votesOf 4 (some .int), Cond.fieldLink RX8 19 "RegaliaVotesModel" "votes" "[I"]
def wsX8_swaysOf : List Cond := .code yX8_swaysOf cX8_swaysOf 7 (some .int) :: ((wsX8_swaysOf_r1 ++ wsX8_swaysOf_r2) ++ wsX80)
def wsX8_sways_r1 : List Cond := [Cond.fieldLink RX8 50 "RegaliaVotesModel" "thrown" "I", Cond.methodLink RX8 141 yX8_isBill, Cond.static yX8_isBill, Cond.initialized RX8, Cond.code yX8_isBill cX8_isBill 1 (some .boolean), Cond.methodLink RX8 54 yX8_in, Cond.static yX8_in, Cond.code yX8_in cX8_in 3 (some .boolean), Cond.methodLink RX8 172 yX8_swaysOf, Cond.instanceMethod yX8_swaysOf, Cond.selects RX8 yX8_swaysOf yX8_swaysOf, Cond.code yX8_swaysOf cX8_swaysOf 7 (some .int), Cond.fieldLink RX8 28 "RegaliaVotesModel" "s" "[I", Cond.fieldLink RX8 13 "RegaliaVotesModel" "many" "[I", Cond.methodLink RX8 119 yX8_voices, Cond.instanceMethod yX8_voices, Cond.selects RX8 yX8_voices yX8_voices, Cond.code yX8_voices cX8_voices 4 (some .int), Cond.methodLink RX8 112 yX8_speaks, Cond.instanceMethod yX8_speaks, Cond.selects RX8 yX8_speaks yX8_speaks, Cond.code yX8_speaks cX8_speaks 4 (some .boolean), Cond.fieldLink RX8 16 "RegaliaVotesModel" "sort" "[I", Cond.methodLink RX8 123 yX8_saysYes]
def wsX8_sways_r2 : List Cond := [Cond.instanceMethod yX8_saysYes, Cond.selects RX8 yX8_saysYes yX8_saysYes, Cond.code yX8_saysYes cX8_saysYes 5 (some .int), Cond.fieldLink RX8 22 "RegaliaVotesModel" "bills" "[I", Cond.methodLink RX8 127 yX8_passesBy, Cond.instanceMethod yX8_passesBy, Cond.selects RX8 yX8_passesBy yX8_passesBy, Cond.code yX8_passesBy cX8_passesBy 3 (some .boolean), Cond.methodLink RX8 116 yX8_votesOf, Cond.instanceMethod yX8_votesOf, Cond.selects RX8 yX8_votesOf yX8_votesOf, Cond.code yX8_votesOf cX8_votesOf 4 (some .int), Cond.fieldLink RX8 19 "RegaliaVotesModel" "votes" "[I"]
def wsX8_sways : List Cond := .code yX8_sways cX8_sways 2 (some .int) :: ((wsX8_sways_r1 ++ wsX8_sways_r2) ++ wsX80)
def wsX8_free_r1 : List Cond := [Cond.fieldLink RX8 50 "RegaliaVotesModel" "thrown" "I", Cond.fieldLink RX8 28 "RegaliaVotesModel" "s" "[I", Cond.methodLink RX8 119 yX8_voices, Cond.instanceMethod yX8_voices, Cond.selects RX8 yX8_voices yX8_voices, Cond.initialized RX8, Cond.code yX8_voices cX8_voices 4 (some .int), Cond.fieldLink RX8 13 "RegaliaVotesModel" "many" "[I", Cond.methodLink RX8 112 yX8_speaks, Cond.instanceMethod yX8_speaks, Cond.selects RX8 yX8_speaks yX8_speaks, Cond.code yX8_speaks cX8_speaks 4 (some .boolean), Cond.fieldLink RX8 16 "RegaliaVotesModel" "sort" "[I", Cond.methodLink RX8 172 yX8_swaysOf, Cond.instanceMethod yX8_swaysOf, Cond.selects RX8 yX8_swaysOf yX8_swaysOf, Cond.code yX8_swaysOf cX8_swaysOf 7 (some .int), Cond.methodLink RX8 123 yX8_saysYes, Cond.instanceMethod yX8_saysYes, Cond.selects RX8 yX8_saysYes yX8_saysYes, Cond.code yX8_saysYes cX8_saysYes 5 (some .int), Cond.fieldLink RX8 22 "RegaliaVotesModel" "bills" "[I", Cond.methodLink RX8 127 yX8_passesBy, Cond.instanceMethod yX8_passesBy]
def wsX8_free_r2 : List Cond := [Cond.selects RX8 yX8_passesBy yX8_passesBy, Cond.code yX8_passesBy cX8_passesBy 3 (some .boolean), Cond.methodLink RX8 116 yX8_votesOf, Cond.instanceMethod yX8_votesOf, Cond.selects RX8 yX8_votesOf yX8_votesOf, Cond.code yX8_votesOf cX8_votesOf 4 (some .int), Cond.fieldLink RX8 19 "RegaliaVotesModel" "votes" "[I"]
def wsX8_free : List Cond := .code yX8_free cX8_free 3 (some .int) :: ((wsX8_free_r1 ++ wsX8_free_r2) ++ wsX80)
def wsX8_turn_r1 : List Cond := [Cond.fieldLink RX8 50 "RegaliaVotesModel" "thrown" "I", Cond.fieldLink RX8 28 "RegaliaVotesModel" "s" "[I", Cond.methodLink RX8 141 yX8_isBill, Cond.static yX8_isBill, Cond.initialized RX8, Cond.code yX8_isBill cX8_isBill 1 (some .boolean), Cond.methodLink RX8 54 yX8_in, Cond.static yX8_in, Cond.code yX8_in cX8_in 3 (some .boolean), Cond.methodLink RX8 119 yX8_voices, Cond.instanceMethod yX8_voices, Cond.selects RX8 yX8_voices yX8_voices, Cond.code yX8_voices cX8_voices 4 (some .int), Cond.fieldLink RX8 13 "RegaliaVotesModel" "many" "[I", Cond.methodLink RX8 112 yX8_speaks, Cond.instanceMethod yX8_speaks, Cond.selects RX8 yX8_speaks yX8_speaks, Cond.code yX8_speaks cX8_speaks 4 (some .boolean), Cond.fieldLink RX8 16 "RegaliaVotesModel" "sort" "[I", Cond.methodLink RX8 154 yX8_ones, Cond.static yX8_ones, Cond.code yX8_ones cX8_ones 3 (some .int), Cond.methodLink RX8 123 yX8_saysYes, Cond.instanceMethod yX8_saysYes]
def wsX8_turn_r2 : List Cond := [Cond.selects RX8 yX8_saysYes yX8_saysYes, Cond.code yX8_saysYes cX8_saysYes 5 (some .int), Cond.fieldLink RX8 22 "RegaliaVotesModel" "bills" "[I", Cond.methodLink RX8 127 yX8_passesBy, Cond.instanceMethod yX8_passesBy, Cond.selects RX8 yX8_passesBy yX8_passesBy, Cond.code yX8_passesBy cX8_passesBy 3 (some .boolean), Cond.methodLink RX8 116 yX8_votesOf, Cond.instanceMethod yX8_votesOf, Cond.selects RX8 yX8_votesOf yX8_votesOf, Cond.code yX8_votesOf cX8_votesOf 4 (some .int), Cond.fieldLink RX8 19 "RegaliaVotesModel" "votes" "[I"]
def wsX8_turn : List Cond := .code yX8_turn cX8_turn 6 (some .int) :: ((wsX8_turn_r1 ++ wsX8_turn_r2) ++ wsX80)
def wsX8_asNow : List Cond := .code yX8_asNow cX8_asNow 2 none :: ([.fieldLink RX8 31 "RegaliaVotesModel" "w" "[I", .fieldLink RX8 28 "RegaliaVotesModel" "s" "[I"] ++ wsX80)
def wsX8_hand_r1 : List Cond := [Cond.fieldLink RX8 50 "RegaliaVotesModel" "thrown" "I", Cond.fieldLink RX8 13 "RegaliaVotesModel" "many" "[I", Cond.fieldLink RX8 28 "RegaliaVotesModel" "s" "[I", Cond.fieldLink RX8 31 "RegaliaVotesModel" "w" "[I", Cond.methodLink RX8 141 yX8_isBill, Cond.static yX8_isBill, Cond.initialized RX8, Cond.code yX8_isBill cX8_isBill 1 (some .boolean), Cond.methodLink RX8 54 yX8_in, Cond.static yX8_in, Cond.code yX8_in cX8_in 3 (some .boolean), Cond.methodLink RX8 138 yX8_heldBy, Cond.instanceMethod yX8_heldBy, Cond.selects RX8 yX8_heldBy yX8_heldBy, Cond.code yX8_heldBy cX8_heldBy 4 (some .int), Cond.methodLink RX8 154 yX8_ones, Cond.static yX8_ones, Cond.code yX8_ones cX8_ones 3 (some .int), Cond.methodLink RX8 175 yX8_asNow, Cond.instanceMethod yX8_asNow, Cond.selects RX8 yX8_asNow yX8_asNow, Cond.code yX8_asNow cX8_asNow 2 none, Cond.methodLink RX8 144 yX8_passes, Cond.instanceMethod yX8_passes]
def wsX8_hand_r2 : List Cond := [Cond.selects RX8 yX8_passes yX8_passes, Cond.code yX8_passes cX8_passes 3 (some .boolean), Cond.methodLink RX8 119 yX8_voices, Cond.instanceMethod yX8_voices, Cond.selects RX8 yX8_voices yX8_voices, Cond.code yX8_voices cX8_voices 4 (some .int), Cond.methodLink RX8 112 yX8_speaks, Cond.instanceMethod yX8_speaks, Cond.selects RX8 yX8_speaks yX8_speaks, Cond.code yX8_speaks cX8_speaks 4 (some .boolean), Cond.fieldLink RX8 16 "RegaliaVotesModel" "sort" "[I", Cond.methodLink RX8 123 yX8_saysYes, Cond.instanceMethod yX8_saysYes, Cond.selects RX8 yX8_saysYes yX8_saysYes, Cond.code yX8_saysYes cX8_saysYes 5 (some .int), Cond.fieldLink RX8 22 "RegaliaVotesModel" "bills" "[I", Cond.methodLink RX8 127 yX8_passesBy, Cond.instanceMethod yX8_passesBy, Cond.selects RX8 yX8_passesBy yX8_passesBy, Cond.code yX8_passesBy cX8_passesBy 3 (some .boolean), Cond.methodLink RX8 116 yX8_votesOf, Cond.instanceMethod yX8_votesOf, Cond.selects RX8 yX8_votesOf yX8_votesOf, Cond.code yX8_votesOf cX8_votesOf 4 (some .int)]
def wsX8_hand_r3 : List Cond := [Cond.fieldLink RX8 19 "RegaliaVotesModel" "votes" "[I"]
def wsX8_hand : List Cond := .code yX8_hand cX8_hand 8 (some .int) :: ((wsX8_hand_r1 ++ (wsX8_hand_r2 ++ wsX8_hand_r3)) ++ wsX80)
def wsX8_swaps_r1 : List Cond := [Cond.fieldLink RX8 50 "RegaliaVotesModel" "thrown" "I", Cond.fieldLink RX8 13 "RegaliaVotesModel" "many" "[I", Cond.fieldLink RX8 31 "RegaliaVotesModel" "w" "[I", Cond.fieldLink RX8 28 "RegaliaVotesModel" "s" "[I", Cond.methodLink RX8 141 yX8_isBill, Cond.static yX8_isBill, Cond.initialized RX8, Cond.code yX8_isBill cX8_isBill 1 (some .boolean), Cond.methodLink RX8 54 yX8_in, Cond.static yX8_in, Cond.code yX8_in cX8_in 3 (some .boolean), Cond.methodLink RX8 175 yX8_asNow, Cond.instanceMethod yX8_asNow, Cond.selects RX8 yX8_asNow yX8_asNow, Cond.code yX8_asNow cX8_asNow 2 none, Cond.methodLink RX8 144 yX8_passes, Cond.instanceMethod yX8_passes, Cond.selects RX8 yX8_passes yX8_passes, Cond.code yX8_passes cX8_passes 3 (some .boolean), Cond.methodLink RX8 119 yX8_voices, Cond.instanceMethod yX8_voices, Cond.selects RX8 yX8_voices yX8_voices, Cond.code yX8_voices cX8_voices 4 (some .int), Cond.methodLink RX8 112 yX8_speaks]
def wsX8_swaps_r2 : List Cond := [Cond.instanceMethod yX8_speaks, Cond.selects RX8 yX8_speaks yX8_speaks, Cond.code yX8_speaks cX8_speaks 4 (some .boolean), Cond.fieldLink RX8 16 "RegaliaVotesModel" "sort" "[I", Cond.methodLink RX8 123 yX8_saysYes, Cond.instanceMethod yX8_saysYes, Cond.selects RX8 yX8_saysYes yX8_saysYes, Cond.code yX8_saysYes cX8_saysYes 5 (some .int), Cond.fieldLink RX8 22 "RegaliaVotesModel" "bills" "[I", Cond.methodLink RX8 127 yX8_passesBy, Cond.instanceMethod yX8_passesBy, Cond.selects RX8 yX8_passesBy yX8_passesBy, Cond.code yX8_passesBy cX8_passesBy 3 (some .boolean), Cond.methodLink RX8 116 yX8_votesOf, Cond.instanceMethod yX8_votesOf, Cond.selects RX8 yX8_votesOf yX8_votesOf, Cond.code yX8_votesOf cX8_votesOf 4 (some .int), Cond.fieldLink RX8 19 "RegaliaVotesModel" "votes" "[I"]
def wsX8_swaps : List Cond := .code yX8_swaps cX8_swaps 5 (some .int) :: ((wsX8_swaps_r1 ++ wsX8_swaps_r2) ++ wsX80)
def wsX8_record : List Cond := .code yX8_record cX8_record 3 (some .int) :: ([.fieldLink RX8 50 "RegaliaVotesModel" "thrown" "I", .fieldLink RX8 106 "RegaliaVotesModel" "recordMany" "I", .fieldLink RX8 44 "RegaliaVotesModel" "recordBill" "[I", .fieldLink RX8 47 "RegaliaVotesModel" "recordIs" "[I", .methodLink RX8 141 yX8_isBill, .static yX8_isBill, .initialized RX8, .code yX8_isBill cX8_isBill 1 (some .boolean), .methodLink RX8 54 yX8_in, .static yX8_in, .code yX8_in cX8_in 3 (some .boolean)] ++ wsX80)
def wsX8_forget : List Cond := .code yX8_forget cX8_forget 2 (some .int) :: ([.fieldLink RX8 50 "RegaliaVotesModel" "thrown" "I", .fieldLink RX8 106 "RegaliaVotesModel" "recordMany" "I"] ++ wsX80)
def wsX8_isAsRecorded_r1 : List Cond := [Cond.fieldLink RX8 106 "RegaliaVotesModel" "recordMany" "I", Cond.fieldLink RX8 44 "RegaliaVotesModel" "recordBill" "[I", Cond.fieldLink RX8 47 "RegaliaVotesModel" "recordIs" "[I", Cond.methodLink RX8 144 yX8_passes, Cond.instanceMethod yX8_passes, Cond.selects RX8 yX8_passes yX8_passes, Cond.initialized RX8, Cond.code yX8_passes cX8_passes 3 (some .boolean), Cond.methodLink RX8 119 yX8_voices, Cond.instanceMethod yX8_voices, Cond.selects RX8 yX8_voices yX8_voices, Cond.code yX8_voices cX8_voices 4 (some .int), Cond.fieldLink RX8 13 "RegaliaVotesModel" "many" "[I", Cond.methodLink RX8 112 yX8_speaks, Cond.instanceMethod yX8_speaks, Cond.selects RX8 yX8_speaks yX8_speaks, Cond.code yX8_speaks cX8_speaks 4 (some .boolean), Cond.fieldLink RX8 16 "RegaliaVotesModel" "sort" "[I", Cond.methodLink RX8 123 yX8_saysYes, Cond.instanceMethod yX8_saysYes, Cond.selects RX8 yX8_saysYes yX8_saysYes, Cond.code yX8_saysYes cX8_saysYes 5 (some .int), Cond.fieldLink RX8 22 "RegaliaVotesModel" "bills" "[I", Cond.methodLink RX8 127 yX8_passesBy]
def wsX8_isAsRecorded_r2 : List Cond := [Cond.instanceMethod yX8_passesBy, Cond.selects RX8 yX8_passesBy yX8_passesBy, Cond.code yX8_passesBy cX8_passesBy 3 (some .boolean), Cond.methodLink RX8 116 yX8_votesOf, Cond.instanceMethod yX8_votesOf, Cond.selects RX8 yX8_votesOf yX8_votesOf, Cond.code yX8_votesOf cX8_votesOf 4 (some .int), Cond.fieldLink RX8 19 "RegaliaVotesModel" "votes" "[I"]
def wsX8_isAsRecorded : List Cond := .code yX8_isAsRecorded cX8_isAsRecorded 4 (some .boolean) :: ((wsX8_isAsRecorded_r1 ++ wsX8_isAsRecorded_r2) ++ wsX80)
def wsX8_isFor_r1 : List Cond := [Cond.fieldLink RX8 50 "RegaliaVotesModel" "thrown" "I", Cond.fieldLink RX8 22 "RegaliaVotesModel" "bills" "[I", Cond.fieldLink RX8 28 "RegaliaVotesModel" "s" "[I", Cond.methodLink RX8 131 yX8_isThing, Cond.instanceMethod yX8_isThing, Cond.selects RX8 yX8_isThing yX8_isThing, Cond.initialized RX8, Cond.code yX8_isThing cX8_isThing 2 (some .boolean), Cond.fieldLink RX8 13 "RegaliaVotesModel" "many" "[I", Cond.methodLink RX8 54 yX8_in, Cond.static yX8_in, Cond.code yX8_in cX8_in 3 (some .boolean), Cond.methodLink RX8 178 yX8_isAsRecorded, Cond.instanceMethod yX8_isAsRecorded, Cond.selects RX8 yX8_isAsRecorded yX8_isAsRecorded, Cond.code yX8_isAsRecorded cX8_isAsRecorded 4 (some .boolean), Cond.fieldLink RX8 106 "RegaliaVotesModel" "recordMany" "I", Cond.fieldLink RX8 44 "RegaliaVotesModel" "recordBill" "[I", Cond.fieldLink RX8 47 "RegaliaVotesModel" "recordIs" "[I", Cond.methodLink RX8 144 yX8_passes, Cond.instanceMethod yX8_passes, Cond.selects RX8 yX8_passes yX8_passes, Cond.code yX8_passes cX8_passes 3 (some .boolean), Cond.methodLink RX8 119 yX8_voices]
def wsX8_isFor_r2 : List Cond := [Cond.instanceMethod yX8_voices, Cond.selects RX8 yX8_voices yX8_voices, Cond.code yX8_voices cX8_voices 4 (some .int), Cond.methodLink RX8 112 yX8_speaks, Cond.instanceMethod yX8_speaks, Cond.selects RX8 yX8_speaks yX8_speaks, Cond.code yX8_speaks cX8_speaks 4 (some .boolean), Cond.fieldLink RX8 16 "RegaliaVotesModel" "sort" "[I", Cond.methodLink RX8 123 yX8_saysYes, Cond.instanceMethod yX8_saysYes, Cond.selects RX8 yX8_saysYes yX8_saysYes, Cond.code yX8_saysYes cX8_saysYes 5 (some .int), Cond.methodLink RX8 127 yX8_passesBy, Cond.instanceMethod yX8_passesBy, Cond.selects RX8 yX8_passesBy yX8_passesBy, Cond.code yX8_passesBy cX8_passesBy 3 (some .boolean), Cond.methodLink RX8 116 yX8_votesOf, Cond.instanceMethod yX8_votesOf, Cond.selects RX8 yX8_votesOf yX8_votesOf, Cond.code yX8_votesOf cX8_votesOf 4 (some .int), Cond.fieldLink RX8 19 "RegaliaVotesModel" "votes" "[I"]
def wsX8_isFor : List Cond := .code yX8_isFor cX8_isFor 7 (some .int) :: ((wsX8_isFor_r1 ++ wsX8_isFor_r2) ++ wsX80)
def wsX8_who_r1 : List Cond := [Cond.fieldLink RX8 50 "RegaliaVotesModel" "thrown" "I", Cond.fieldLink RX8 31 "RegaliaVotesModel" "w" "[I", Cond.fieldLink RX8 13 "RegaliaVotesModel" "many" "[I", Cond.methodLink RX8 175 yX8_asNow, Cond.instanceMethod yX8_asNow, Cond.selects RX8 yX8_asNow yX8_asNow, Cond.initialized RX8, Cond.code yX8_asNow cX8_asNow 2 none, Cond.fieldLink RX8 28 "RegaliaVotesModel" "s" "[I", Cond.methodLink RX8 178 yX8_isAsRecorded, Cond.instanceMethod yX8_isAsRecorded, Cond.selects RX8 yX8_isAsRecorded yX8_isAsRecorded, Cond.code yX8_isAsRecorded cX8_isAsRecorded 4 (some .boolean), Cond.fieldLink RX8 106 "RegaliaVotesModel" "recordMany" "I", Cond.fieldLink RX8 44 "RegaliaVotesModel" "recordBill" "[I", Cond.fieldLink RX8 47 "RegaliaVotesModel" "recordIs" "[I", Cond.methodLink RX8 144 yX8_passes, Cond.instanceMethod yX8_passes, Cond.selects RX8 yX8_passes yX8_passes, Cond.code yX8_passes cX8_passes 3 (some .boolean), Cond.methodLink RX8 119 yX8_voices, Cond.instanceMethod yX8_voices, Cond.selects RX8 yX8_voices yX8_voices, Cond.code yX8_voices cX8_voices 4 (some .int)]
def wsX8_who_r2 : List Cond := [Cond.methodLink RX8 112 yX8_speaks, Cond.instanceMethod yX8_speaks, Cond.selects RX8 yX8_speaks yX8_speaks, Cond.code yX8_speaks cX8_speaks 4 (some .boolean), Cond.fieldLink RX8 16 "RegaliaVotesModel" "sort" "[I", Cond.methodLink RX8 123 yX8_saysYes, Cond.instanceMethod yX8_saysYes, Cond.selects RX8 yX8_saysYes yX8_saysYes, Cond.code yX8_saysYes cX8_saysYes 5 (some .int), Cond.fieldLink RX8 22 "RegaliaVotesModel" "bills" "[I", Cond.methodLink RX8 127 yX8_passesBy, Cond.instanceMethod yX8_passesBy, Cond.selects RX8 yX8_passesBy yX8_passesBy, Cond.code yX8_passesBy cX8_passesBy 3 (some .boolean), Cond.methodLink RX8 116 yX8_votesOf, Cond.instanceMethod yX8_votesOf, Cond.selects RX8 yX8_votesOf yX8_votesOf, Cond.code yX8_votesOf cX8_votesOf 4 (some .int), Cond.fieldLink RX8 19 "RegaliaVotesModel" "votes" "[I"]
def wsX8_who : List Cond := .code yX8_who cX8_who 3 (some .int) :: ((wsX8_who_r1 ++ wsX8_who_r2) ++ wsX80)
def wsX8_odds_r1 : List Cond := [Cond.fieldLink RX8 50 "RegaliaVotesModel" "thrown" "I", Cond.fieldLink RX8 13 "RegaliaVotesModel" "many" "[I", Cond.fieldLink RX8 31 "RegaliaVotesModel" "w" "[I", Cond.methodLink RX8 141 yX8_isBill, Cond.static yX8_isBill, Cond.initialized RX8, Cond.code yX8_isBill cX8_isBill 1 (some .boolean), Cond.methodLink RX8 54 yX8_in, Cond.static yX8_in, Cond.code yX8_in cX8_in 3 (some .boolean), Cond.methodLink RX8 175 yX8_asNow, Cond.instanceMethod yX8_asNow, Cond.selects RX8 yX8_asNow yX8_asNow, Cond.code yX8_asNow cX8_asNow 2 none, Cond.fieldLink RX8 28 "RegaliaVotesModel" "s" "[I", Cond.methodLink RX8 144 yX8_passes, Cond.instanceMethod yX8_passes, Cond.selects RX8 yX8_passes yX8_passes, Cond.code yX8_passes cX8_passes 3 (some .boolean), Cond.methodLink RX8 119 yX8_voices, Cond.instanceMethod yX8_voices, Cond.selects RX8 yX8_voices yX8_voices, Cond.code yX8_voices cX8_voices 4 (some .int), Cond.methodLink RX8 112 yX8_speaks]
def wsX8_odds_r2 : List Cond := [Cond.instanceMethod yX8_speaks, Cond.selects RX8 yX8_speaks yX8_speaks, Cond.code yX8_speaks cX8_speaks 4 (some .boolean), Cond.fieldLink RX8 16 "RegaliaVotesModel" "sort" "[I", Cond.methodLink RX8 123 yX8_saysYes, Cond.instanceMethod yX8_saysYes, Cond.selects RX8 yX8_saysYes yX8_saysYes, Cond.code yX8_saysYes cX8_saysYes 5 (some .int), Cond.fieldLink RX8 22 "RegaliaVotesModel" "bills" "[I", Cond.methodLink RX8 127 yX8_passesBy, Cond.instanceMethod yX8_passesBy, Cond.selects RX8 yX8_passesBy yX8_passesBy, Cond.code yX8_passesBy cX8_passesBy 3 (some .boolean), Cond.methodLink RX8 116 yX8_votesOf, Cond.instanceMethod yX8_votesOf, Cond.selects RX8 yX8_votesOf yX8_votesOf, Cond.code yX8_votesOf cX8_votesOf 4 (some .int), Cond.fieldLink RX8 19 "RegaliaVotesModel" "votes" "[I", Cond.methodLink RX8 166 yX8_gcd, Cond.static yX8_gcd, Cond.code yX8_gcd cX8_gcd 5 (some .int)]
def wsX8_odds : List Cond := .code yX8_odds cX8_odds 9 (some .int) :: ((wsX8_odds_r1 ++ wsX8_odds_r2) ++ wsX80)
def wsX8_rate : List Cond := .code yX8_rate cX8_rate 5 (some .int) :: ([.fieldLink RX8 50 "RegaliaVotesModel" "thrown" "I", .constant RX8 182 (-1000000), .fieldLink RX8 19 "RegaliaVotesModel" "votes" "[I", .fieldLink RX8 22 "RegaliaVotesModel" "bills" "[I", .fieldLink RX8 28 "RegaliaVotesModel" "s" "[I", .fieldLink RX8 183 "RegaliaVotesModel" "trace" "J", .constantLong RX8 187 (11), .constantLong RX8 189 (101), .constantLong RX8 191 (1011), .constantLong RX8 193 (10101), .constantLong RX8 195 (100001), .methodLink RX8 54 yX8_in, .static yX8_in, .initialized RX8, .code yX8_in cX8_in 3 (some .boolean), .methodLink RX8 131 yX8_isThing, .instanceMethod yX8_isThing, .selects RX8 yX8_isThing yX8_isThing, .code yX8_isThing cX8_isThing 2 (some .boolean), .fieldLink RX8 13 "RegaliaVotesModel" "many" "[I", .methodLink RX8 154 yX8_ones, .static yX8_ones, .code yX8_ones cX8_ones 3 (some .int)] ++ wsX80)
def wsX8_keep : List Cond := .code yX8_keep cX8_keep 3 (some .int) :: ([.fieldLink RX8 50 "RegaliaVotesModel" "thrown" "I", .fieldLink RX8 34 "RegaliaVotesModel" "kept" "[I", .fieldLink RX8 28 "RegaliaVotesModel" "s" "[I", .fieldLink RX8 37 "RegaliaVotesModel" "isKept" "[Z", .methodLink RX8 54 yX8_in, .static yX8_in, .initialized RX8, .code yX8_in cX8_in 3 (some .boolean)] ++ wsX80)
def wsX8_back : List Cond := .code yX8_back cX8_back 3 (some .int) :: ([.fieldLink RX8 50 "RegaliaVotesModel" "thrown" "I", .fieldLink RX8 37 "RegaliaVotesModel" "isKept" "[Z", .fieldLink RX8 28 "RegaliaVotesModel" "s" "[I", .fieldLink RX8 34 "RegaliaVotesModel" "kept" "[I", .fieldLink RX8 109 "RegaliaVotesModel" "undoMany" "I", .methodLink RX8 54 yX8_in, .static yX8_in, .initialized RX8, .code yX8_in cX8_in 3 (some .boolean)] ++ wsX80)
def wsX8_count : List Cond := .code yX8_count cX8_count 2 (some .int) :: ([.fieldLink RX8 50 "RegaliaVotesModel" "thrown" "I", .fieldLink RX8 13 "RegaliaVotesModel" "many" "[I", .fieldLink RX8 106 "RegaliaVotesModel" "recordMany" "I", .fieldLink RX8 58 "RegaliaVotesModel" "typed" "I", .methodLink RX8 54 yX8_in, .static yX8_in, .initialized RX8, .code yX8_in cX8_in 3 (some .boolean)] ++ wsX80)
def wsX8_trace : List Cond := .code yX8_trace cX8_trace 1 (some .long) :: ([.fieldLink RX8 50 "RegaliaVotesModel" "thrown" "I", .fieldLink RX8 183 "RegaliaVotesModel" "trace" "J"] ++ wsX80)
def wsJ9_min_7cf53 : List Cond := .code yJ9_min_7cf53 cJ9_min_7cf53 2 (some .int) :: ([])
def wsL_law_r1 : List Cond := [Cond.classLink RL 7 RX7, Cond.instantiable RX7 13, Cond.initialized RX7, Cond.classLink RL 10 RX8, Cond.instantiable RX8 24, Cond.initialized RX8, Cond.methodLink RL 9 yX7_init, Cond.instanceMethod yX7_init, Cond.code yX7_init cX7_init 2 none, Cond.methodLink RX7 1 objectInit, Cond.instanceMethod objectInit, Cond.code objectInit ⟨#[0xb1]⟩ 1 none, Cond.arrayClass .char, Cond.fieldLink RX7 9 "RegaliaVotes" "text" "[C", Cond.fieldLink RX7 13 "RegaliaVotes" "letters" "I", Cond.classLink RX7 17 RX0, Cond.instantiable RX0 7, Cond.initialized RX0, Cond.fieldLink RX7 20 "RegaliaVotes" "told" "LRegaliaVotes$Council;", Cond.fieldLink RX7 24 "RegaliaVotes" "draft" "LRegaliaVotes$Council;", Cond.classLink RX7 27 RX5, Cond.instantiable RX5 9, Cond.initialized RX5, Cond.fieldLink RX7 32 "RegaliaVotes" "reader" "LRegaliaVotes$Reader;"]
def wsL_law_r2 : List Cond := [Cond.classLink RX7 36 RX2, Cond.instantiable RX2 7, Cond.initialized RX2, Cond.fieldLink RX7 39 "RegaliaVotes" "moment" "LRegaliaVotes$Moment;", Cond.classLink RX7 43 RX6, Cond.instantiable RX6 2, Cond.initialized RX6, Cond.fieldLink RX7 48 "RegaliaVotes" "vote" "LRegaliaVotes$Vote;", Cond.classLink RX7 52 RX4, Cond.instantiable RX4 1, Cond.initialized RX4, Cond.fieldLink RX7 57 "RegaliaVotes" "powers" "LRegaliaVotes$Power;", Cond.classLink RX7 61 RX1, Cond.instantiable RX1 4, Cond.initialized RX1, Cond.fieldLink RX7 64 "RegaliaVotes" "minutes" "LRegaliaVotes$Minutes;", Cond.classLink RX7 68 RX3, Cond.instantiable RX3 3, Cond.initialized RX3, Cond.fieldLink RX7 71 "RegaliaVotes" "past" "LRegaliaVotes$Past;", Cond.fieldLink RX7 75 "RegaliaVotes" "images" "[LRegaliaVotes$Moment;", Cond.fieldLink RX7 79 "RegaliaVotes" "kept" "I", Cond.fieldLink RX7 82 "RegaliaVotes" "traced" "J", Cond.instanceMethod yX0_init]
def wsL_law_r3 : List Cond := [Cond.code yX0_init cX0_init 1 none, Cond.methodLink RX0 3 objectInit, Cond.fieldLink RX0 9 "RegaliaVotes$Council" "things" "I", Cond.fieldLink RX0 15 "RegaliaVotes$Council" "officers" "I", Cond.fieldLink RX0 18 "RegaliaVotes$Council" "warmth" "I", Cond.arrayClass .int, Cond.fieldLink RX0 21 "RegaliaVotes$Council" "sort" "[I", Cond.fieldLink RX0 25 "RegaliaVotes$Council" "votes" "[I", Cond.fieldLink RX0 28 "RegaliaVotes$Council" "forBills" "[I", Cond.fieldLink RX0 31 "RegaliaVotes$Council" "firstHolder" "[I", Cond.methodLink RX7 29 yX5_init, Cond.instanceMethod yX5_init, Cond.code yX5_init cX5_init 3 none, Cond.methodLink RX5 3 objectInit, Cond.fieldLink RX5 9 "RegaliaVotes$Reader" "length" "I", Cond.fieldLink RX5 15 "RegaliaVotes$Reader" "place" "I", Cond.fieldLink RX5 18 "RegaliaVotes$Reader" "token" "I", Cond.fieldLink RX5 21 "RegaliaVotes$Reader" "tokenPlace" "I", Cond.fieldLink RX5 24 "RegaliaVotes$Reader" "number" "I", Cond.fieldLink RX5 27 "RegaliaVotes$Reader" "fault" "I", Cond.fieldLink RX5 30 "RegaliaVotes$Reader" "warmthTold" "Z", Cond.fieldLink RX5 34 "RegaliaVotes$Reader" "text" "[C", Cond.fieldLink RX5 38 "RegaliaVotes$Reader" "draft" "LRegaliaVotes$Council;", Cond.instanceMethod yX2_init]
def wsL_law_r4 : List Cond := [Cond.code yX2_init cX2_init 1 none, Cond.methodLink RX2 3 objectInit, Cond.fieldLink RX2 9 "RegaliaVotes$Moment" "holder" "[I", Cond.fieldLink RX2 15 "RegaliaVotes$Moment" "warmth" "[I", Cond.fieldLink RX2 18 "RegaliaVotes$Moment" "wash" "I", Cond.fieldLink RX2 22 "RegaliaVotes$Moment" "turned" "I", Cond.fieldLink RX2 25 "RegaliaVotes$Moment" "sick" "I", Cond.fieldLink RX2 28 "RegaliaVotes$Moment" "put" "I", Cond.fieldLink RX2 31 "RegaliaVotes$Moment" "passed" "I", Cond.methodLink RX7 45 yX6_init, Cond.instanceMethod yX6_init, Cond.code yX6_init cX6_init 3 none, Cond.methodLink RX6 3 objectInit, Cond.fieldLink RX6 9 "RegaliaVotes$Vote" "told" "LRegaliaVotes$Council;", Cond.fieldLink RX6 15 "RegaliaVotes$Vote" "moment" "LRegaliaVotes$Moment;", Cond.methodLink RX7 54 yX4_init, Cond.instanceMethod yX4_init, Cond.code yX4_init cX4_init 2 none, Cond.methodLink RX4 3 objectInit, Cond.fieldLink RX4 9 "RegaliaVotes$Power" "vote" "LRegaliaVotes$Vote;", Cond.methodLink RX7 63 yX1_init, Cond.instanceMethod yX1_init, Cond.code yX1_init cX1_init 2 none, Cond.methodLink RX1 3 objectInit]
def wsL_law_r5 : List Cond := [Cond.fieldLink RX1 9 "RegaliaVotes$Minutes" "bills" "[I", Cond.arrayClass .boolean, Cond.fieldLink RX1 15 "RegaliaVotes$Minutes" "outcomes" "[Z", Cond.fieldLink RX1 19 "RegaliaVotes$Minutes" "lines" "I", Cond.fieldLink RX1 23 "RegaliaVotes$Minutes" "vote" "LRegaliaVotes$Vote;", Cond.methodLink RX7 70 yX3_init, Cond.instanceMethod yX3_init, Cond.code yX3_init cX3_init 2 none, Cond.methodLink RX3 3 objectInit, Cond.classLink RX3 9 RX2, Cond.fieldLink RX3 11 "RegaliaVotes$Past" "ring" "[LRegaliaVotes$Moment;", Cond.fieldLink RX3 17 "RegaliaVotes$Past" "next" "I", Cond.fieldLink RX3 21 "RegaliaVotes$Past" "known" "I", Cond.methodLink RL 12 yX8_init, Cond.instanceMethod yX8_init, Cond.code yX8_init cX8_init 1 none, Cond.methodLink RX8 1 objectInit, Cond.fieldLink RX8 7 "RegaliaVotesModel" "text" "[I", Cond.fieldLink RX8 13 "RegaliaVotesModel" "many" "[I", Cond.fieldLink RX8 16 "RegaliaVotesModel" "sort" "[I", Cond.fieldLink RX8 19 "RegaliaVotesModel" "votes" "[I", Cond.fieldLink RX8 22 "RegaliaVotesModel" "bills" "[I", Cond.fieldLink RX8 25 "RegaliaVotesModel" "holder" "[I", Cond.fieldLink RX8 28 "RegaliaVotesModel" "s" "[I"]
def wsL_law_r6 : List Cond := [Cond.fieldLink RX8 31 "RegaliaVotesModel" "w" "[I", Cond.fieldLink RX8 34 "RegaliaVotesModel" "kept" "[I", Cond.fieldLink RX8 37 "RegaliaVotesModel" "isKept" "[Z", Cond.fieldLink RX8 41 "RegaliaVotesModel" "undos" "[I", Cond.fieldLink RX8 44 "RegaliaVotesModel" "recordBill" "[I", Cond.fieldLink RX8 47 "RegaliaVotesModel" "recordIs" "[I", Cond.methodLink RL 13 yX7_type, Cond.instanceMethod yX7_type, Cond.selects RX7 yX7_type yX7_type, Cond.code yX7_type cX7_type 2 (some .int), Cond.methodLink RL 17 yX8_type, Cond.instanceMethod yX8_type, Cond.selects RX8 yX8_type yX8_type, Cond.code yX8_type cX8_type 2 (some .int), Cond.fieldLink RX8 50 "RegaliaVotesModel" "thrown" "I", Cond.fieldLink RX8 58 "RegaliaVotesModel" "typed" "I", Cond.methodLink RX8 54 yX8_in, Cond.static yX8_in, Cond.code yX8_in cX8_in 3 (some .boolean), Cond.methodLink RL 18 yX7_clear, Cond.instanceMethod yX7_clear, Cond.selects RX7 yX7_clear yX7_clear, Cond.code yX7_clear cX7_clear 2 (some .int), Cond.methodLink RL 22 yX8_clear]
def wsL_law_r7 : List Cond := [Cond.instanceMethod yX8_clear, Cond.selects RX8 yX8_clear yX8_clear, Cond.code yX8_clear cX8_clear 2 (some .int), Cond.methodLink RL 23 yX7_council, Cond.instanceMethod yX7_council, Cond.selects RX7 yX7_council yX7_council, Cond.code yX7_council cX7_council 2 (some .int), Cond.methodLink RX7 86 yX5_readText, Cond.instanceMethod yX5_readText, Cond.selects RX5 yX5_readText yX5_readText, Cond.code yX5_readText cX5_readText 3 (some .int), Cond.methodLink RX5 42 yX5_begin, Cond.instanceMethod yX5_begin, Cond.selects RX5 yX5_begin yX5_begin, Cond.code yX5_begin cX5_begin 2 none, Cond.methodLink RX5 64 Lib.Math.min.name, Cond.static Lib.Math.min.name, Cond.initialized "java/lang/Math", Cond.code Lib.Math.min.name Lib.Math.min.code 2 (some .int), Cond.methodLink RX5 70 yX0_beginAnew, Cond.instanceMethod yX0_beginAnew, Cond.selects RX0 yX0_beginAnew yX0_beginAnew, Cond.code yX0_beginAnew cX0_beginAnew 1 none, Cond.methodLink RX5 61 yX5_nextToken]
def wsL_law_r8 : List Cond := [Cond.instanceMethod yX5_nextToken, Cond.selects RX5 yX5_nextToken yX5_nextToken, Cond.code yX5_nextToken cX5_nextToken 1 none, Cond.methodLink RX5 91 yX5_isDigit, Cond.static yX5_isDigit, Cond.code yX5_isDigit cX5_isDigit 1 (some .boolean), Cond.methodLink RX5 95 yX5_takeDigits, Cond.instanceMethod yX5_takeDigits, Cond.selects RX5 yX5_takeDigits yX5_takeDigits, Cond.code yX5_takeDigits cX5_takeDigits 3 none, Cond.methodLink RX5 46 yX5_readOfficers, Cond.instanceMethod yX5_readOfficers, Cond.selects RX5 yX5_readOfficers yX5_readOfficers, Cond.code yX5_readOfficers cX5_readOfficers 2 none, Cond.fieldLink RX5 78 "RegaliaVotes$Council" "officers" "I", Cond.methodLink RX5 55 yX5_markFault, Cond.instanceMethod yX5_markFault, Cond.selects RX5 yX5_markFault yX5_markFault, Cond.code yX5_markFault cX5_markFault 1 none, Cond.methodLink RX5 75 yX5_readNumber, Cond.instanceMethod yX5_readNumber, Cond.selects RX5 yX5_readNumber yX5_readNumber, Cond.code yX5_readNumber cX5_readNumber 3 (some .int), Cond.methodLink RX5 49 yX5_readThing]
def wsL_law_r9 : List Cond := [Cond.instanceMethod yX5_readThing, Cond.selects RX5 yX5_readThing yX5_readThing, Cond.code yX5_readThing cX5_readThing 5 none, Cond.fieldLink RX5 81 "RegaliaVotes$Council" "things" "I", Cond.methodLink RX5 84 yX0_addThing, Cond.instanceMethod yX0_addThing, Cond.selects RX0 yX0_addThing yX0_addThing, Cond.code yX0_addThing cX0_addThing 5 none, Cond.methodLink RX5 52 yX5_readWarmth, Cond.instanceMethod yX5_readWarmth, Cond.selects RX5 yX5_readWarmth yX5_readWarmth, Cond.code yX5_readWarmth cX5_readWarmth 1 none, Cond.fieldLink RX5 88 "RegaliaVotes$Council" "warmth" "I", Cond.methodLink RX5 58 yX5_readItemEnd, Cond.instanceMethod yX5_readItemEnd, Cond.selects RX5 yX5_readItemEnd yX5_readItemEnd, Cond.code yX5_readItemEnd cX5_readItemEnd 1 none, Cond.methodLink RX7 90 yX0_copyFrom, Cond.instanceMethod yX0_copyFrom, Cond.selects RX0 yX0_copyFrom yX0_copyFrom, Cond.code yX0_copyFrom cX0_copyFrom 2 none, Cond.methodLink RX0 34 arraycopyName, Cond.native arraycopyName, Cond.static arraycopyName]
def wsL_law_r10 : List Cond := [Cond.initialized "java/lang/System", Cond.methodLink RX7 94 yX2_beginWith, Cond.instanceMethod yX2_beginWith, Cond.selects RX2 yX2_beginWith yX2_beginWith, Cond.code yX2_beginWith cX2_beginWith 2 none, Cond.fieldLink RX2 34 "RegaliaVotes$Council" "firstHolder" "[I", Cond.methodLink RX2 39 arraycopyName, Cond.methodLink RX2 45 yJ7_fill_53178, Cond.static yJ7_fill_53178, Cond.initialized RJ7, Cond.code yJ7_fill_53178 cJ7_fill_53178 4 none, Cond.methodLink RX7 97 yX1_tearUp, Cond.instanceMethod yX1_tearUp, Cond.selects RX1 yX1_tearUp yX1_tearUp, Cond.code yX1_tearUp cX1_tearUp 1 none, Cond.methodLink RX7 100 yX3_lose, Cond.instanceMethod yX3_lose, Cond.selects RX3 yX3_lose yX3_lose, Cond.code yX3_lose cX3_lose 1 none, Cond.methodLink RL 26 yX8_council, Cond.instanceMethod yX8_council, Cond.selects RX8 yX8_council yX8_council, Cond.code yX8_council cX8_council 3 (some .int), Cond.fieldLink RX8 77 "RegaliaVotesModel" "fault" "I"]
def wsL_law_r11 : List Cond := [Cond.fieldLink RX8 61 "RegaliaVotesModel" "next" "I", Cond.fieldLink RX8 95 "RegaliaVotesModel" "isWarmthTold" "Z", Cond.fieldLink RX8 71 "RegaliaVotesModel" "token" "I", Cond.fieldLink RX8 74 "RegaliaVotesModel" "value" "I", Cond.methodLink RX8 84 yX8_advances, Cond.instanceMethod yX8_advances, Cond.selects RX8 yX8_advances yX8_advances, Cond.code yX8_advances cX8_advances 2 none, Cond.fieldLink RX8 68 "RegaliaVotesModel" "place" "I", Cond.methodLink RX8 64 yX8_letterAt, Cond.instanceMethod yX8_letterAt, Cond.selects RX8 yX8_letterAt yX8_letterAt, Cond.code yX8_letterAt cX8_letterAt 2 (some .int), Cond.methodLink RX8 80 yX8_isWell, Cond.instanceMethod yX8_isWell, Cond.selects RX8 yX8_isWell yX8_isWell, Cond.code yX8_isWell cX8_isWell 1 (some .boolean), Cond.methodLink RX8 87 yX8_takes, Cond.instanceMethod yX8_takes, Cond.selects RX8 yX8_takes yX8_takes, Cond.code yX8_takes cX8_takes 3 (some .int), Cond.methodLink RX8 99 yX8_readsItem, Cond.instanceMethod yX8_readsItem, Cond.selects RX8 yX8_readsItem yX8_readsItem]
def wsL_law_r12 : List Cond := [Cond.code yX8_readsItem cX8_readsItem 3 none, Cond.methodLink RX8 91 yX8_number, Cond.instanceMethod yX8_number, Cond.selects RX8 yX8_number yX8_number, Cond.code yX8_number cX8_number 3 (some .int), Cond.methodLink RX8 103 yX8_settles, Cond.instanceMethod yX8_settles, Cond.selects RX8 yX8_settles yX8_settles, Cond.code yX8_settles cX8_settles 2 none, Cond.fieldLink RX8 106 "RegaliaVotesModel" "recordMany" "I", Cond.fieldLink RX8 109 "RegaliaVotesModel" "undoMany" "I", Cond.methodLink RL 27 yX7_thing, Cond.instanceMethod yX7_thing, Cond.selects RX7 yX7_thing yX7_thing, Cond.code yX7_thing cX7_thing 3 (some .int), Cond.fieldLink RX7 107 "RegaliaVotes$Council" "sort" "[I", Cond.fieldLink RX7 111 "RegaliaVotes$Council" "votes" "[I", Cond.fieldLink RX7 114 "RegaliaVotes$Council" "forBills" "[I", Cond.fieldLink RX7 117 "RegaliaVotes$Moment" "holder" "[I", Cond.fieldLink RX7 120 "RegaliaVotes$Moment" "wash" "I", Cond.fieldLink RX7 127 "RegaliaVotes$Moment" "turned" "I", Cond.fieldLink RX7 130 "RegaliaVotes$Moment" "warmth" "[I", Cond.methodLink RX7 103 yX7_noThing, Cond.instanceMethod yX7_noThing]
def wsL_law_r13 : List Cond := [Cond.selects RX7 yX7_noThing yX7_noThing, Cond.code yX7_noThing cX7_noThing 2 (some .boolean), Cond.fieldLink RX7 274 "RegaliaVotes$Council" "things" "I", Cond.methodLink RX7 123 yX7_bit, Cond.static yX7_bit, Cond.code yX7_bit cX7_bit 2 (some .int), Cond.methodLink RX7 133 yX6_voices, Cond.instanceMethod yX6_voices, Cond.selects RX6 yX6_voices yX6_voices, Cond.code yX6_voices cX6_voices 1 (some .int), Cond.fieldLink RX6 44 "RegaliaVotes$Moment" "sick" "I", Cond.methodLink RX6 47 yX6_voicesIfSick, Cond.instanceMethod yX6_voicesIfSick, Cond.selects RX6 yX6_voicesIfSick yX6_voicesIfSick, Cond.code yX6_voicesIfSick cX6_voicesIfSick 2 (some .int), Cond.methodLink RX6 51 yX6_able, Cond.instanceMethod yX6_able, Cond.selects RX6 yX6_able yX6_able, Cond.code yX6_able cX6_able 4 (some .int), Cond.fieldLink RX6 19 "RegaliaVotes$Council" "things" "I", Cond.fieldLink RX6 25 "RegaliaVotes$Council" "sort" "[I", Cond.fieldLink RX6 29 "RegaliaVotes$Moment" "warmth" "[I", Cond.fieldLink RX6 34 "RegaliaVotes$Moment" "wash" "I", Cond.methodLink RX6 55 yX6_heldBy]
def wsL_law_r14 : List Cond := [Cond.instanceMethod yX6_heldBy, Cond.selects RX6 yX6_heldBy yX6_heldBy, Cond.code yX6_heldBy cX6_heldBy 4 (some .int), Cond.fieldLink RX6 37 "RegaliaVotes$Moment" "holder" "[I", Cond.methodLink RL 31 yX8_thing, Cond.instanceMethod yX8_thing, Cond.selects RX8 yX8_thing yX8_thing, Cond.code yX8_thing cX8_thing 3 (some .int), Cond.methodLink RX8 131 yX8_isThing, Cond.instanceMethod yX8_isThing, Cond.selects RX8 yX8_isThing yX8_isThing, Cond.code yX8_isThing cX8_isThing 2 (some .boolean), Cond.methodLink RX8 112 yX8_speaks, Cond.instanceMethod yX8_speaks, Cond.selects RX8 yX8_speaks yX8_speaks, Cond.code yX8_speaks cX8_speaks 4 (some .boolean), Cond.methodLink RL 32 yX7_officer, Cond.instanceMethod yX7_officer, Cond.selects RX7 yX7_officer yX7_officer, Cond.code yX7_officer cX7_officer 3 (some .int), Cond.fieldLink RX7 140 "RegaliaVotes$Moment" "sick" "I", Cond.methodLink RX7 137 yX7_noOfficer, Cond.instanceMethod yX7_noOfficer, Cond.selects RX7 yX7_noOfficer yX7_noOfficer]
def wsL_law_r15 : List Cond := [Cond.code yX7_noOfficer cX7_noOfficer 2 (some .boolean), Cond.fieldLink RX7 277 "RegaliaVotes$Council" "officers" "I", Cond.methodLink RX7 143 yX6_heldBy, Cond.methodLink RX7 146 yX6_votesHeldBy, Cond.instanceMethod yX6_votesHeldBy, Cond.selects RX6 yX6_votesHeldBy yX6_votesHeldBy, Cond.code yX6_votesHeldBy cX6_votesHeldBy 2 (some .int), Cond.methodLink RX6 73 yX6_voices, Cond.methodLink RX6 70 yX6_votesOf, Cond.instanceMethod yX6_votesOf, Cond.selects RX6 yX6_votesOf yX6_votesOf, Cond.code yX6_votesOf cX6_votesOf 4 (some .int), Cond.fieldLink RX6 58 "RegaliaVotes$Council" "votes" "[I", Cond.methodLink RL 35 yX8_officer, Cond.instanceMethod yX8_officer, Cond.selects RX8 yX8_officer yX8_officer, Cond.code yX8_officer cX8_officer 3 (some .int), Cond.methodLink RX8 135 yX8_isOfficer, Cond.instanceMethod yX8_isOfficer, Cond.selects RX8 yX8_isOfficer yX8_isOfficer, Cond.code yX8_isOfficer cX8_isOfficer 2 (some .boolean), Cond.methodLink RX8 138 yX8_heldBy, Cond.instanceMethod yX8_heldBy, Cond.selects RX8 yX8_heldBy yX8_heldBy]
def wsL_law_r16 : List Cond := [Cond.code yX8_heldBy cX8_heldBy 4 (some .int), Cond.methodLink RX8 119 yX8_voices, Cond.instanceMethod yX8_voices, Cond.selects RX8 yX8_voices yX8_voices, Cond.code yX8_voices cX8_voices 4 (some .int), Cond.methodLink RX8 116 yX8_votesOf, Cond.instanceMethod yX8_votesOf, Cond.selects RX8 yX8_votesOf yX8_votesOf, Cond.code yX8_votesOf cX8_votesOf 4 (some .int), Cond.methodLink RL 36 yX7_bill, Cond.instanceMethod yX7_bill, Cond.selects RX7 yX7_bill yX7_bill, Cond.code yX7_bill cX7_bill 5 (some .int), Cond.methodLink RX7 149 yX7_noBill, Cond.static yX7_noBill, Cond.code yX7_noBill cX7_noBill 1 (some .boolean), Cond.methodLink RX7 152 yX6_yesOf, Cond.instanceMethod yX6_yesOf, Cond.selects RX6 yX6_yesOf yX6_yesOf, Cond.code yX6_yesOf cX6_yesOf 4 (some .int), Cond.fieldLink RX6 61 "RegaliaVotes$Council" "forBills" "[I", Cond.fieldLink RX6 64 "RegaliaVotes$Moment" "turned" "I", Cond.methodLink RX7 155 yX6_votesOf, Cond.methodLink RX7 158 yX6_passesBy]
def wsL_law_r17 : List Cond := [Cond.instanceMethod yX6_passesBy, Cond.selects RX6 yX6_passesBy yX6_passesBy, Cond.code yX6_passesBy cX6_passesBy 3 (some .boolean), Cond.methodLink RL 39 yX8_bill, Cond.instanceMethod yX8_bill, Cond.selects RX8 yX8_bill yX8_bill, Cond.code yX8_bill cX8_bill 5 (some .int), Cond.methodLink RX8 141 yX8_isBill, Cond.static yX8_isBill, Cond.code yX8_isBill cX8_isBill 1 (some .boolean), Cond.methodLink RX8 123 yX8_saysYes, Cond.instanceMethod yX8_saysYes, Cond.selects RX8 yX8_saysYes yX8_saysYes, Cond.code yX8_saysYes cX8_saysYes 5 (some .int), Cond.methodLink RX8 144 yX8_passes, Cond.instanceMethod yX8_passes, Cond.selects RX8 yX8_passes yX8_passes, Cond.code yX8_passes cX8_passes 3 (some .boolean), Cond.methodLink RX8 127 yX8_passesBy, Cond.instanceMethod yX8_passesBy, Cond.selects RX8 yX8_passesBy yX8_passesBy, Cond.code yX8_passesBy cX8_passesBy 3 (some .boolean), Cond.methodLink RL 40 yX7_now, Cond.instanceMethod yX7_now]
def wsL_law_r18 : List Cond := [Cond.selects RX7 yX7_now yX7_now, Cond.code yX7_now cX7_now 2 (some .int), Cond.fieldLink RX7 162 "RegaliaVotes$Moment" "put" "I", Cond.fieldLink RX7 165 "RegaliaVotes$Moment" "passed" "I", Cond.fieldLink RX7 171 "RegaliaVotes$Past" "known" "I", Cond.methodLink RX7 168 yX6_mostHolder, Cond.instanceMethod yX6_mostHolder, Cond.selects RX6 yX6_mostHolder yX6_mostHolder, Cond.code yX6_mostHolder cX6_mostHolder 5 (some .int), Cond.fieldLink RX6 83 "RegaliaVotes$Council" "officers" "I", Cond.methodLink RX6 80 yX6_votesHeldBy, Cond.methodLink RL 43 yX8_now, Cond.instanceMethod yX8_now, Cond.selects RX8 yX8_now yX8_now, Cond.code yX8_now cX8_now 2 (some .int), Cond.methodLink RX8 147 yX8_most, Cond.instanceMethod yX8_most, Cond.selects RX8 yX8_most yX8_most, Cond.code yX8_most cX8_most 3 (some .int), Cond.methodLink RL 44 yX7_puts, Cond.instanceMethod yX7_puts, Cond.selects RX7 yX7_puts yX7_puts, Cond.code yX7_puts cX7_puts 3 (some .int), Cond.methodLink RX7 174 yX3_remember]
def wsL_law_r19 : List Cond := [Cond.instanceMethod yX3_remember, Cond.selects RX3 yX3_remember yX3_remember, Cond.code yX3_remember cX3_remember 2 none, Cond.methodLink RX3 29 Lib.Math.min.name, Cond.methodLink RX3 25 yX2_copyFrom, Cond.instanceMethod yX2_copyFrom, Cond.selects RX2 yX2_copyFrom yX2_copyFrom, Cond.code yX2_copyFrom cX2_copyFrom 2 none, Cond.methodLink RX7 178 yX6_passes, Cond.instanceMethod yX6_passes, Cond.selects RX6 yX6_passes yX6_passes, Cond.code yX6_passes cX6_passes 2 (some .boolean), Cond.methodLink RX6 67 yX6_yesOf, Cond.methodLink RX6 76 yX6_passesBy, Cond.methodLink RX7 181 yX2_cool, Cond.instanceMethod yX2_cool, Cond.selects RX2 yX2_cool yX2_cool, Cond.code yX2_cool cX2_cool 2 none, Cond.methodLink RL 47 yX8_puts, Cond.instanceMethod yX8_puts, Cond.selects RX8 yX8_puts yX8_puts, Cond.code yX8_puts cX8_puts 4 (some .int), Cond.methodLink RX8 151 yX8_notes, Cond.instanceMethod yX8_notes]
def wsL_law_r20 : List Cond := [Cond.selects RX8 yX8_notes yX8_notes, Cond.code yX8_notes cX8_notes 2 none, Cond.methodLink RL 48 yX7_hands, Cond.instanceMethod yX7_hands, Cond.selects RX7 yX7_hands yX7_hands, Cond.code yX7_hands cX7_hands 4 (some .int), Cond.methodLink RL 51 yX8_hands, Cond.instanceMethod yX8_hands, Cond.selects RX8 yX8_hands yX8_hands, Cond.code yX8_hands cX8_hands 4 (some .int), Cond.methodLink RL 52 yX7_washes, Cond.instanceMethod yX7_washes, Cond.selects RX7 yX7_washes yX7_washes, Cond.code yX7_washes cX7_washes 2 (some .int), Cond.methodLink RX7 184 yJ6_bitCount_0f7a4, Cond.static yJ6_bitCount_0f7a4, Cond.initialized RJ6, Cond.code yJ6_bitCount_0f7a4 cJ6_bitCount_0f7a4 1 (some .int), Cond.constant RJ6 265 (1431655765), Cond.constant RJ6 266 (858993459), Cond.constant RJ6 267 (252645135), Cond.methodLink RL 55 yX8_washes, Cond.instanceMethod yX8_washes, Cond.selects RX8 yX8_washes yX8_washes]
def wsL_law_r21 : List Cond := [Cond.code yX8_washes cX8_washes 2 (some .int), Cond.methodLink RX8 154 yX8_ones, Cond.static yX8_ones, Cond.code yX8_ones cX8_ones 3 (some .int), Cond.methodLink RL 56 yX7_hangs, Cond.instanceMethod yX7_hangs, Cond.selects RX7 yX7_hangs yX7_hangs, Cond.code yX7_hangs cX7_hangs 2 (some .int), Cond.methodLink RL 59 yX8_hangs, Cond.instanceMethod yX8_hangs, Cond.selects RX8 yX8_hangs yX8_hangs, Cond.code yX8_hangs cX8_hangs 2 (some .int), Cond.methodLink RL 60 yX7_warms, Cond.instanceMethod yX7_warms, Cond.selects RX7 yX7_warms yX7_warms, Cond.code yX7_warms cX7_warms 3 (some .int), Cond.fieldLink RX7 189 "RegaliaVotes$Council" "warmth" "I", Cond.methodLink RL 63 yX8_warms, Cond.instanceMethod yX8_warms, Cond.selects RX8 yX8_warms yX8_warms, Cond.code yX8_warms cX8_warms 3 (some .int), Cond.methodLink RL 64 yX7_sickens, Cond.instanceMethod yX7_sickens, Cond.selects RX7 yX7_sickens yX7_sickens]
def wsL_law_r22 : List Cond := [Cond.code yX7_sickens cX7_sickens 4 (some .int), Cond.methodLink RL 67 yX8_sickens, Cond.instanceMethod yX8_sickens, Cond.selects RX8 yX8_sickens yX8_sickens, Cond.code yX8_sickens cX8_sickens 4 (some .int), Cond.methodLink RL 68 yX7_undo, Cond.instanceMethod yX7_undo, Cond.selects RX7 yX7_undo yX7_undo, Cond.code yX7_undo cX7_undo 1 (some .int), Cond.methodLink RX7 191 yX3_recall, Cond.instanceMethod yX3_recall, Cond.selects RX3 yX3_recall yX3_recall, Cond.code yX3_recall cX3_recall 2 none, Cond.methodLink RL 71 yX8_undo, Cond.instanceMethod yX8_undo, Cond.selects RX8 yX8_undo yX8_undo, Cond.code yX8_undo cX8_undo 2 (some .int), Cond.methodLink RL 72 yX7_power, Cond.instanceMethod yX7_power, Cond.selects RX7 yX7_power yX7_power, Cond.code yX7_power cX7_power 3 (some .int), Cond.methodLink RX7 194 yX7_noTerm, Cond.static yX7_noTerm, Cond.code yX7_noTerm cX7_noTerm 1 (some .boolean)]
def wsL_law_r23 : List Cond := [Cond.methodLink RX7 197 yX4_ordersDecided, Cond.instanceMethod yX4_ordersDecided, Cond.selects RX4 yX4_ordersDecided yX4_ordersDecided, Cond.code yX4_ordersDecided cX4_ordersDecided 7 (some .int), Cond.static yX7_isWithin, Cond.code yX7_isWithin cX7_isWithin 2 (some .boolean), Cond.methodLink RX4 41 yX4_carries, Cond.instanceMethod yX4_carries, Cond.selects RX4 yX4_carries yX4_carries, Cond.code yX4_carries cX4_carries 3 (some .boolean), Cond.methodLink RX4 19 yX6_votesOf, Cond.methodLink RX4 29 yJ6_bitCount_0f7a4, Cond.methodLink RX4 34 yX4_ordersOf, Cond.static yX4_ordersOf, Cond.code yX4_ordersOf cX4_ordersOf 1 (some .int), Cond.fieldLink RX4 15 "RegaliaVotes$Power" "FACTORIAL" "[I", Cond.methodLink RX7 200 yX4_orders, Cond.instanceMethod yX4_orders, Cond.selects RX4 yX4_orders yX4_orders, Cond.code yX4_orders cX4_orders 1 (some .int), Cond.methodLink RX4 25 yX6_voices, Cond.methodLink RX7 203 yX7_term, Cond.static yX7_term, Cond.code yX7_term cX7_term 4 (some .int)]
def wsL_law_r24 : List Cond := [Cond.methodLink RX7 290 yX7_commonDivisor, Cond.static yX7_commonDivisor, Cond.code yX7_commonDivisor cX7_commonDivisor 6 (some .int), Cond.methodLink RL 75 yX8_power, Cond.instanceMethod yX8_power, Cond.selects RX8 yX8_power yX8_power, Cond.code yX8_power cX8_power 6 (some .int), Cond.methodLink RX8 163 yX8_decides, Cond.instanceMethod yX8_decides, Cond.selects RX8 yX8_decides yX8_decides, Cond.code yX8_decides cX8_decides 6 (some .int), Cond.methodLink RX8 157 yX8_carries, Cond.instanceMethod yX8_carries, Cond.selects RX8 yX8_carries yX8_carries, Cond.code yX8_carries cX8_carries 2 (some .boolean), Cond.methodLink RX8 160 yX8_orders, Cond.static yX8_orders, Cond.code yX8_orders cX8_orders 3 (some .int), Cond.methodLink RX8 166 yX8_gcd, Cond.static yX8_gcd, Cond.code yX8_gcd cX8_gcd 5 (some .int), Cond.methodLink RL 76 yX7_least, Cond.instanceMethod yX7_least, Cond.selects RX7 yX7_least yX7_least]
def wsL_law_r25 : List Cond := [Cond.code yX7_least cX7_least 2 (some .int), Cond.methodLink RX7 207 yX4_leastSets, Cond.instanceMethod yX4_leastSets, Cond.selects RX4 yX4_leastSets yX4_leastSets, Cond.code yX4_leastSets cX4_leastSets 4 (some .int), Cond.methodLink RX4 51 yX4_isLeast, Cond.instanceMethod yX4_isLeast, Cond.selects RX4 yX4_isLeast yX4_isLeast, Cond.code yX4_isLeast cX4_isLeast 4 (some .boolean), Cond.methodLink RX7 210 yX4_firstLeastSet, Cond.instanceMethod yX4_firstLeastSet, Cond.selects RX4 yX4_firstLeastSet yX4_firstLeastSet, Cond.code yX4_firstLeastSet cX4_firstLeastSet 3 (some .int), Cond.methodLink RL 79 yX8_least, Cond.instanceMethod yX8_least, Cond.selects RX8 yX8_least yX8_least, Cond.code yX8_least cX8_least 5 (some .int), Cond.methodLink RX8 169 yX8_isLeast, Cond.instanceMethod yX8_isLeast, Cond.selects RX8 yX8_isLeast yX8_isLeast, Cond.code yX8_isLeast cX8_isLeast 4 (some .boolean), Cond.methodLink RL 80 yX7_dummies, Cond.instanceMethod yX7_dummies, Cond.selects RX7 yX7_dummies yX7_dummies]
def wsL_law_r26 : List Cond := [Cond.code yX7_dummies cX7_dummies 1 (some .int), Cond.methodLink RX7 213 yX4_powerless, Cond.instanceMethod yX4_powerless, Cond.selects RX4 yX4_powerless yX4_powerless, Cond.code yX4_powerless cX4_powerless 4 (some .int), Cond.methodLink RX4 48 yX4_ordersDecided, Cond.methodLink RL 83 yX8_dummies, Cond.instanceMethod yX8_dummies, Cond.selects RX8 yX8_dummies yX8_dummies, Cond.code yX8_dummies cX8_dummies 3 (some .int), Cond.methodLink RL 84 yX7_sways, Cond.instanceMethod yX7_sways, Cond.selects RX7 yX7_sways yX7_sways, Cond.code yX7_sways cX7_sways 2 (some .int), Cond.methodLink RX7 216 yX6_swayers, Cond.instanceMethod yX6_swayers, Cond.selects RX6 yX6_swayers yX6_swayers, Cond.code yX6_swayers cX6_swayers 8 (some .int), Cond.methodLink RL 87 yX8_sways, Cond.instanceMethod yX8_sways, Cond.selects RX8 yX8_sways yX8_sways, Cond.code yX8_sways cX8_sways 2 (some .int), Cond.methodLink RX8 172 yX8_swaysOf, Cond.instanceMethod yX8_swaysOf]
def wsL_law_r27 : List Cond := [Cond.selects RX8 yX8_swaysOf yX8_swaysOf, Cond.code yX8_swaysOf cX8_swaysOf 7 (some .int), Cond.methodLink RL 88 yX7_free, Cond.instanceMethod yX7_free, Cond.selects RX7 yX7_free yX7_free, Cond.code yX7_free cX7_free 3 (some .int), Cond.methodLink RL 91 yX8_free, Cond.instanceMethod yX8_free, Cond.selects RX8 yX8_free yX8_free, Cond.code yX8_free cX8_free 3 (some .int), Cond.methodLink RL 92 yX7_turn, Cond.instanceMethod yX7_turn, Cond.selects RX7 yX7_turn yX7_turn, Cond.code yX7_turn cX7_turn 2 (some .int), Cond.methodLink RX7 219 yX6_fewestTurned, Cond.instanceMethod yX6_fewestTurned, Cond.selects RX6 yX6_fewestTurned yX6_fewestTurned, Cond.code yX6_fewestTurned cX6_fewestTurned 6 (some .int), Cond.methodLink RX6 89 yX6_isFewer, Cond.static yX6_isFewer, Cond.code yX6_isFewer cX6_isFewer 2 (some .boolean), Cond.methodLink RX6 96 yJ6_bitCount_0f7a4, Cond.methodLink RL 95 yX8_turn, Cond.instanceMethod yX8_turn]
def wsL_law_r28 : List Cond := [Cond.selects RX8 yX8_turn yX8_turn, Cond.code yX8_turn cX8_turn 6 (some .int), Cond.methodLink RL 96 yX7_hand, Cond.instanceMethod yX7_hand, Cond.selects RX7 yX7_hand yX7_hand, Cond.code yX7_hand cX7_hand 2 (some .int), Cond.methodLink RX7 222 yX6_fewestHanded, Cond.instanceMethod yX6_fewestHanded, Cond.selects RX6 yX6_fewestHanded yX6_fewestHanded, Cond.code yX6_fewestHanded cX6_fewestHanded 8 (some .int), Cond.methodLink RX6 92 yX6_isAnyoneWell, Cond.instanceMethod yX6_isAnyoneWell, Cond.selects RX6 yX6_isAnyoneWell yX6_isAnyoneWell, Cond.code yX6_isAnyoneWell cX6_isAnyoneWell 1 (some .boolean), Cond.methodLink RL 99 yX8_hand, Cond.instanceMethod yX8_hand, Cond.selects RX8 yX8_hand yX8_hand, Cond.code yX8_hand cX8_hand 8 (some .int), Cond.methodLink RX8 175 yX8_asNow, Cond.instanceMethod yX8_asNow, Cond.selects RX8 yX8_asNow yX8_asNow, Cond.code yX8_asNow cX8_asNow 2 none, Cond.methodLink RL 100 yX7_swaps, Cond.instanceMethod yX7_swaps]
def wsL_law_r29 : List Cond := [Cond.selects RX7 yX7_swaps yX7_swaps, Cond.code yX7_swaps cX7_swaps 2 (some .int), Cond.methodLink RX7 225 yX6_changingSwaps, Cond.instanceMethod yX6_changingSwaps, Cond.selects RX6 yX6_changingSwaps yX6_changingSwaps, Cond.code yX6_changingSwaps cX6_changingSwaps 10 (some .int), Cond.methodLink RX6 101 yX6_exchanged, Cond.static yX6_exchanged, Cond.code yX6_exchanged cX6_exchanged 4 (some .int), Cond.methodLink RL 103 yX8_swaps, Cond.instanceMethod yX8_swaps, Cond.selects RX8 yX8_swaps yX8_swaps, Cond.code yX8_swaps cX8_swaps 5 (some .int), Cond.methodLink RL 104 yX7_record, Cond.instanceMethod yX7_record, Cond.selects RX7 yX7_record yX7_record, Cond.code yX7_record cX7_record 3 (some .int), Cond.fieldLink RX7 228 "RegaliaVotes$Minutes" "lines" "I", Cond.methodLink RX7 231 yX1_write, Cond.instanceMethod yX1_write, Cond.selects RX1 yX1_write yX1_write, Cond.code yX1_write cX1_write 3 none, Cond.methodLink RL 107 yX8_record, Cond.instanceMethod yX8_record]
def wsL_law_r30 : List Cond := [Cond.selects RX8 yX8_record yX8_record, Cond.code yX8_record cX8_record 3 (some .int), Cond.methodLink RL 108 yX7_forget, Cond.instanceMethod yX7_forget, Cond.selects RX7 yX7_forget yX7_forget, Cond.code yX7_forget cX7_forget 2 (some .int), Cond.methodLink RL 111 yX8_forget, Cond.instanceMethod yX8_forget, Cond.selects RX8 yX8_forget yX8_forget, Cond.code yX8_forget cX8_forget 2 (some .int), Cond.methodLink RL 112 yX7_isFor, Cond.instanceMethod yX7_isFor, Cond.selects RX7 yX7_isFor yX7_isFor, Cond.code yX7_isFor cX7_isFor 3 (some .int), Cond.methodLink RX7 235 yX1_possibleSets, Cond.instanceMethod yX1_possibleSets, Cond.selects RX1 yX1_possibleSets yX1_possibleSets, Cond.code yX1_possibleSets cX1_possibleSets 5 (some .int), Cond.methodLink RX1 44 yX6_voices, Cond.methodLink RX1 48 yX1_isSoIfFor, Cond.instanceMethod yX1_isSoIfFor, Cond.selects RX1 yX1_isSoIfFor yX1_isSoIfFor, Cond.code yX1_isSoIfFor cX1_isSoIfFor 5 (some .boolean), Cond.methodLink RX1 27 yX6_yesIfFor]
def wsL_law_r31 : List Cond := [Cond.instanceMethod yX6_yesIfFor, Cond.selects RX6 yX6_yesIfFor yX6_yesIfFor, Cond.code yX6_yesIfFor cX6_yesIfFor 5 (some .int), Cond.methodLink RX1 33 yX6_passesBy, Cond.methodLink RX7 238 yX1_leastPossibleSet, Cond.instanceMethod yX1_leastPossibleSet, Cond.selects RX1 yX1_leastPossibleSet yX1_leastPossibleSet, Cond.code yX1_leastPossibleSet cX1_leastPossibleSet 4 (some .int), Cond.methodLink RL 115 yX8_isFor, Cond.instanceMethod yX8_isFor, Cond.selects RX8 yX8_isFor yX8_isFor, Cond.code yX8_isFor cX8_isFor 7 (some .int), Cond.methodLink RX8 178 yX8_isAsRecorded, Cond.instanceMethod yX8_isAsRecorded, Cond.selects RX8 yX8_isAsRecorded yX8_isAsRecorded, Cond.code yX8_isAsRecorded cX8_isAsRecorded 4 (some .boolean), Cond.methodLink RL 116 yX7_who, Cond.instanceMethod yX7_who, Cond.selects RX7 yX7_who yX7_who, Cond.code yX7_who cX7_who 1 (some .int), Cond.methodLink RX7 241 yX1_possiblySick, Cond.instanceMethod yX1_possiblySick, Cond.selects RX1 yX1_possiblySick yX1_possiblySick, Cond.code yX1_possiblySick cX1_possiblySick 3 (some .int)]
def wsL_law_r32 : List Cond := [Cond.fieldLink RX1 56 "RegaliaVotes$Vote" "told" "LRegaliaVotes$Council;", Cond.fieldLink RX1 60 "RegaliaVotes$Council" "officers" "I", Cond.methodLink RX1 52 yX1_isSoIfSick, Cond.instanceMethod yX1_isSoIfSick, Cond.selects RX1 yX1_isSoIfSick yX1_isSoIfSick, Cond.code yX1_isSoIfSick cX1_isSoIfSick 4 (some .boolean), Cond.methodLink RX1 37 yX6_voicesIfSick, Cond.methodLink RX1 41 yX6_yesOf, Cond.methodLink RL 119 yX8_who, Cond.instanceMethod yX8_who, Cond.selects RX8 yX8_who yX8_who, Cond.code yX8_who cX8_who 3 (some .int), Cond.methodLink RL 120 yX7_odds, Cond.instanceMethod yX7_odds, Cond.selects RX7 yX7_odds yX7_odds, Cond.code yX7_odds cX7_odds 4 (some .int), Cond.methodLink RX7 244 yX6_chancesToPass, Cond.instanceMethod yX6_chancesToPass, Cond.selects RX6 yX6_chancesToPass yX6_chancesToPass, Cond.code yX6_chancesToPass cX6_chancesToPass 6 (some .int), Cond.methodLink RX6 105 yX6_chancesOfSick, Cond.instanceMethod yX6_chancesOfSick, Cond.selects RX6 yX6_chancesOfSick yX6_chancesOfSick, Cond.code yX6_chancesOfSick cX6_chancesOfSick 5 (some .int)]
def wsL_law_r33 : List Cond := [Cond.methodLink RX7 247 yX6_chances, Cond.instanceMethod yX6_chances, Cond.selects RX6 yX6_chances yX6_chances, Cond.code yX6_chances cX6_chances 3 (some .int), Cond.methodLink RL 124 yX8_odds, Cond.instanceMethod yX8_odds, Cond.selects RX8 yX8_odds yX8_odds, Cond.code yX8_odds cX8_odds 9 (some .int), Cond.methodLink RL 125 yX7_rate, Cond.instanceMethod yX7_rate, Cond.selects RX7 yX7_rate yX7_rate, Cond.code yX7_rate cX7_rate 3 (some .int), Cond.constant RX7 250 (-1000000), Cond.methodLink RX7 251 yX7_asThing, Cond.instanceMethod yX7_asThing, Cond.selects RX7 yX7_asThing yX7_asThing, Cond.code yX7_asThing cX7_asThing 2 (some .int), Cond.methodLink RX7 254 yX7_asSceptre, Cond.instanceMethod yX7_asSceptre, Cond.selects RX7 yX7_asSceptre yX7_asSceptre, Cond.code yX7_asSceptre cX7_asSceptre 2 (some .int), Cond.constantLong RX7 280 (10), Cond.methodLink RX7 257 yX7_asOrb, Cond.instanceMethod yX7_asOrb]
def wsL_law_r34 : List Cond := [Cond.selects RX7 yX7_asOrb yX7_asOrb, Cond.code yX7_asOrb cX7_asOrb 2 (some .int), Cond.constantLong RX7 282 (100), Cond.methodLink RX7 260 yX7_asRing, Cond.instanceMethod yX7_asRing, Cond.selects RX7 yX7_asRing yX7_asRing, Cond.code yX7_asRing cX7_asRing 2 (some .int), Cond.constantLong RX7 284 (1000), Cond.methodLink RX7 263 yX7_asSeal, Cond.instanceMethod yX7_asSeal, Cond.selects RX7 yX7_asSeal yX7_asSeal, Cond.code yX7_asSeal cX7_asSeal 2 (some .int), Cond.constantLong RX7 286 (10000), Cond.methodLink RX7 266 yX7_asSpoon, Cond.instanceMethod yX7_asSpoon, Cond.selects RX7 yX7_asSpoon yX7_asSpoon, Cond.code yX7_asSpoon cX7_asSpoon 2 (some .int), Cond.constantLong RX7 288 (100000), Cond.methodLink RL 128 yX8_rate, Cond.instanceMethod yX8_rate, Cond.selects RX8 yX8_rate yX8_rate, Cond.code yX8_rate cX8_rate 5 (some .int), Cond.constant RX8 182 (-1000000), Cond.fieldLink RX8 183 "RegaliaVotesModel" "trace" "J"]
def wsL_law_r35 : List Cond := [Cond.constantLong RX8 187 (11), Cond.constantLong RX8 189 (101), Cond.constantLong RX8 191 (1011), Cond.constantLong RX8 193 (10101), Cond.constantLong RX8 195 (100001), Cond.methodLink RL 129 yX7_keep, Cond.instanceMethod yX7_keep, Cond.selects RX7 yX7_keep yX7_keep, Cond.code yX7_keep cX7_keep 2 (some .int), Cond.methodLink RX7 269 yX7_noImage, Cond.static yX7_noImage, Cond.code yX7_noImage cX7_noImage 1 (some .boolean), Cond.methodLink RX7 272 yX2_copyFrom, Cond.methodLink RL 132 yX8_keep, Cond.instanceMethod yX8_keep, Cond.selects RX8 yX8_keep yX8_keep, Cond.code yX8_keep cX8_keep 3 (some .int), Cond.methodLink RL 133 yX7_back, Cond.instanceMethod yX7_back, Cond.selects RX7 yX7_back yX7_back, Cond.code yX7_back cX7_back 2 (some .int), Cond.methodLink RL 136 yX8_back, Cond.instanceMethod yX8_back, Cond.selects RX8 yX8_back yX8_back]
def wsL_law_r36 : List Cond := [Cond.code yX8_back cX8_back 3 (some .int), Cond.methodLink RL 137 yX7_count, Cond.instanceMethod yX7_count, Cond.selects RX7 yX7_count yX7_count, Cond.code yX7_count cX7_count 2 (some .int), Cond.methodLink RL 140 yX8_count, Cond.instanceMethod yX8_count, Cond.selects RX8 yX8_count yX8_count, Cond.code yX8_count cX8_count 2 (some .int), Cond.methodLink RL 141 yX7_trace, Cond.instanceMethod yX7_trace, Cond.selects RX7 yX7_trace yX7_trace, Cond.code yX7_trace cX7_trace 1 (some .long), Cond.methodLink RL 145 yX8_trace, Cond.instanceMethod yX8_trace, Cond.selects RX8 yX8_trace yX8_trace, Cond.code yX8_trace cX8_trace 1 (some .long)]
def wsL_law : List Cond := (wsL_law_r1 ++ (wsL_law_r2 ++ (wsL_law_r3 ++ (wsL_law_r4 ++ (wsL_law_r5 ++ (wsL_law_r6 ++ (wsL_law_r7 ++ (wsL_law_r8 ++ (wsL_law_r9 ++ (wsL_law_r10 ++ (wsL_law_r11 ++ (wsL_law_r12 ++ (wsL_law_r13 ++ (wsL_law_r14 ++ (wsL_law_r15 ++ (wsL_law_r16 ++ (wsL_law_r17 ++ (wsL_law_r18 ++ (wsL_law_r19 ++ (wsL_law_r20 ++ (wsL_law_r21 ++ (wsL_law_r22 ++ (wsL_law_r23 ++ (wsL_law_r24 ++ (wsL_law_r25 ++ (wsL_law_r26 ++ (wsL_law_r27 ++ (wsL_law_r28 ++ (wsL_law_r29 ++ (wsL_law_r30 ++ (wsL_law_r31 ++ (wsL_law_r32 ++ (wsL_law_r33 ++ (wsL_law_r34 ++ (wsL_law_r35 ++ wsL_law_r36))))))))))))))))))))))))))))))))))) ++ wsX70 ++ wsX80 ++ wsX00 ++ wsX50 ++ wsX20 ++ wsX60 ++ wsX40 ++ wsX10 ++ wsX30 ++ ([] : List Cond)
theorem inlX0 : ∀ w ∈ wsX00, w ∈ wsL_law := fun _ h => List.mem_append_left _ (List.mem_append_left _ (List.mem_append_left _ (List.mem_append_left _ (List.mem_append_left _ (List.mem_append_left _ (List.mem_append_left _ (List.mem_append_right _ h)))))))
theorem inlX1 : ∀ w ∈ wsX10, w ∈ wsL_law := fun _ h => List.mem_append_left _ (List.mem_append_left _ (List.mem_append_right _ h))
theorem inlX2 : ∀ w ∈ wsX20, w ∈ wsL_law := fun _ h => List.mem_append_left _ (List.mem_append_left _ (List.mem_append_left _ (List.mem_append_left _ (List.mem_append_left _ (List.mem_append_right _ h)))))
theorem inlX3 : ∀ w ∈ wsX30, w ∈ wsL_law := fun _ h => List.mem_append_left _ (List.mem_append_right _ h)
theorem inlX4 : ∀ w ∈ wsX40, w ∈ wsL_law := fun _ h => List.mem_append_left _ (List.mem_append_left _ (List.mem_append_left _ (List.mem_append_right _ h)))
theorem inlX5 : ∀ w ∈ wsX50, w ∈ wsL_law := fun _ h => List.mem_append_left _ (List.mem_append_left _ (List.mem_append_left _ (List.mem_append_left _ (List.mem_append_left _ (List.mem_append_left _ (List.mem_append_right _ h))))))
theorem inlX6 : ∀ w ∈ wsX60, w ∈ wsL_law := fun _ h => List.mem_append_left _ (List.mem_append_left _ (List.mem_append_left _ (List.mem_append_left _ (List.mem_append_right _ h))))
theorem inlX7 : ∀ w ∈ wsX70, w ∈ wsL_law := fun _ h => List.mem_append_left _ (List.mem_append_left _ (List.mem_append_left _ (List.mem_append_left _ (List.mem_append_left _ (List.mem_append_left _ (List.mem_append_left _ (List.mem_append_left _ (List.mem_append_left _ (List.mem_append_right _ h)))))))))
theorem inlX8 : ∀ w ∈ wsX80, w ∈ wsL_law := fun _ h => List.mem_append_left _ (List.mem_append_left _ (List.mem_append_left _ (List.mem_append_left _ (List.mem_append_left _ (List.mem_append_left _ (List.mem_append_left _ (List.mem_append_left _ (List.mem_append_right _ h))))))))
theorem dX0_init_0 : decode cX0_init 0 = .ok (.aload_n 0, 1) := by decide +kernel
theorem dX0_init_1 : decode cX0_init 1 = .ok (.invokespecial 3, 3) := by decide +kernel
theorem dX0_init_4 : decode cX0_init 4 = .ok (.aload_n 0, 1) := by decide +kernel
theorem dX0_init_5 : decode cX0_init 5 = .ok (.iconst 0, 1) := by decide +kernel
theorem dX0_init_6 : decode cX0_init 6 = .ok (.putfield 9, 3) := by decide +kernel
theorem dX0_init_9 : decode cX0_init 9 = .ok (.aload_n 0, 1) := by decide +kernel
theorem dX0_init_10 : decode cX0_init 10 = .ok (.iconst 3, 1) := by decide +kernel
theorem dX0_init_11 : decode cX0_init 11 = .ok (.putfield 15, 3) := by decide +kernel
theorem dX0_init_14 : decode cX0_init 14 = .ok (.aload_n 0, 1) := by decide +kernel
theorem dX0_init_15 : decode cX0_init 15 = .ok (.iconst 2, 1) := by decide +kernel
theorem dX0_init_16 : decode cX0_init 16 = .ok (.putfield 18, 3) := by decide +kernel
theorem dX0_init_19 : decode cX0_init 19 = .ok (.aload_n 0, 1) := by decide +kernel
theorem dX0_init_20 : decode cX0_init 20 = .ok (.bipush 7, 2) := by decide +kernel
theorem dX0_init_22 : decode cX0_init 22 = .ok (.newarray .int, 2) := by decide +kernel
theorem dX0_init_24 : decode cX0_init 24 = .ok (.putfield 21, 3) := by decide +kernel
theorem dX0_init_27 : decode cX0_init 27 = .ok (.aload_n 0, 1) := by decide +kernel
theorem dX0_init_28 : decode cX0_init 28 = .ok (.bipush 7, 2) := by decide +kernel
theorem dX0_init_30 : decode cX0_init 30 = .ok (.newarray .int, 2) := by decide +kernel
theorem dX0_init_32 : decode cX0_init 32 = .ok (.putfield 25, 3) := by decide +kernel
theorem dX0_init_35 : decode cX0_init 35 = .ok (.aload_n 0, 1) := by decide +kernel
theorem dX0_init_36 : decode cX0_init 36 = .ok (.bipush 7, 2) := by decide +kernel
theorem dX0_init_38 : decode cX0_init 38 = .ok (.newarray .int, 2) := by decide +kernel
theorem dX0_init_40 : decode cX0_init 40 = .ok (.putfield 28, 3) := by decide +kernel
theorem dX0_init_43 : decode cX0_init 43 = .ok (.aload_n 0, 1) := by decide +kernel
theorem dX0_init_44 : decode cX0_init 44 = .ok (.bipush 7, 2) := by decide +kernel
theorem dX0_init_46 : decode cX0_init 46 = .ok (.newarray .int, 2) := by decide +kernel
theorem dX0_init_48 : decode cX0_init 48 = .ok (.putfield 31, 3) := by decide +kernel
theorem dX0_init_51 : decode cX0_init 51 = .ok (.return_, 1) := by decide +kernel
theorem dX0_beginAnew_0 : decode cX0_beginAnew 0 = .ok (.aload_n 0, 1) := by decide +kernel
theorem dX0_beginAnew_1 : decode cX0_beginAnew 1 = .ok (.iconst 0, 1) := by decide +kernel
theorem dX0_beginAnew_2 : decode cX0_beginAnew 2 = .ok (.putfield 9, 3) := by decide +kernel
theorem dX0_beginAnew_5 : decode cX0_beginAnew 5 = .ok (.aload_n 0, 1) := by decide +kernel
theorem dX0_beginAnew_6 : decode cX0_beginAnew 6 = .ok (.iconst 3, 1) := by decide +kernel
theorem dX0_beginAnew_7 : decode cX0_beginAnew 7 = .ok (.putfield 15, 3) := by decide +kernel
theorem dX0_beginAnew_10 : decode cX0_beginAnew 10 = .ok (.aload_n 0, 1) := by decide +kernel
theorem dX0_beginAnew_11 : decode cX0_beginAnew 11 = .ok (.iconst 2, 1) := by decide +kernel
theorem dX0_beginAnew_12 : decode cX0_beginAnew 12 = .ok (.putfield 18, 3) := by decide +kernel
theorem dX0_beginAnew_15 : decode cX0_beginAnew 15 = .ok (.return_, 1) := by decide +kernel
theorem dX0_addThing_0 : decode cX0_addThing 0 = .ok (.aload_n 0, 1) := by decide +kernel
theorem dX0_addThing_1 : decode cX0_addThing 1 = .ok (.getfield 9, 3) := by decide +kernel
theorem dX0_addThing_4 : decode cX0_addThing 4 = .ok (.bipush 7, 2) := by decide +kernel
theorem dX0_addThing_6 : decode cX0_addThing 6 = .ok (.if_icmp .lt 4, 3) := by decide +kernel
theorem dX0_addThing_9 : decode cX0_addThing 9 = .ok (.return_, 1) := by decide +kernel
theorem dX0_addThing_10 : decode cX0_addThing 10 = .ok (.aload_n 0, 1) := by decide +kernel
theorem dX0_addThing_11 : decode cX0_addThing 11 = .ok (.getfield 21, 3) := by decide +kernel
theorem dX0_addThing_14 : decode cX0_addThing 14 = .ok (.aload_n 0, 1) := by decide +kernel
theorem dX0_addThing_15 : decode cX0_addThing 15 = .ok (.getfield 9, 3) := by decide +kernel
theorem dX0_addThing_18 : decode cX0_addThing 18 = .ok (.iload_n 1, 1) := by decide +kernel
theorem dX0_addThing_19 : decode cX0_addThing 19 = .ok (.iastore, 1) := by decide +kernel
theorem dX0_addThing_20 : decode cX0_addThing 20 = .ok (.aload_n 0, 1) := by decide +kernel
theorem dX0_addThing_21 : decode cX0_addThing 21 = .ok (.getfield 25, 3) := by decide +kernel
theorem dX0_addThing_24 : decode cX0_addThing 24 = .ok (.aload_n 0, 1) := by decide +kernel
theorem dX0_addThing_25 : decode cX0_addThing 25 = .ok (.getfield 9, 3) := by decide +kernel
theorem dX0_addThing_28 : decode cX0_addThing 28 = .ok (.iload_n 2, 1) := by decide +kernel
theorem dX0_addThing_29 : decode cX0_addThing 29 = .ok (.iastore, 1) := by decide +kernel
theorem dX0_addThing_30 : decode cX0_addThing 30 = .ok (.aload_n 0, 1) := by decide +kernel
theorem dX0_addThing_31 : decode cX0_addThing 31 = .ok (.getfield 28, 3) := by decide +kernel
theorem dX0_addThing_34 : decode cX0_addThing 34 = .ok (.aload_n 0, 1) := by decide +kernel
theorem dX0_addThing_35 : decode cX0_addThing 35 = .ok (.getfield 9, 3) := by decide +kernel
theorem dX0_addThing_38 : decode cX0_addThing 38 = .ok (.iload_n 3, 1) := by decide +kernel
theorem dX0_addThing_39 : decode cX0_addThing 39 = .ok (.iastore, 1) := by decide +kernel
theorem dX0_addThing_40 : decode cX0_addThing 40 = .ok (.aload_n 0, 1) := by decide +kernel
theorem dX0_addThing_41 : decode cX0_addThing 41 = .ok (.getfield 31, 3) := by decide +kernel
theorem dX0_addThing_44 : decode cX0_addThing 44 = .ok (.aload_n 0, 1) := by decide +kernel
theorem dX0_addThing_45 : decode cX0_addThing 45 = .ok (.getfield 9, 3) := by decide +kernel
theorem dX0_addThing_48 : decode cX0_addThing 48 = .ok (.iload 4, 2) := by decide +kernel
theorem dX0_addThing_50 : decode cX0_addThing 50 = .ok (.iastore, 1) := by decide +kernel
theorem dX0_addThing_51 : decode cX0_addThing 51 = .ok (.aload_n 0, 1) := by decide +kernel
theorem dX0_addThing_52 : decode cX0_addThing 52 = .ok (.dup, 1) := by decide +kernel
theorem dX0_addThing_53 : decode cX0_addThing 53 = .ok (.getfield 9, 3) := by decide +kernel
theorem dX0_addThing_56 : decode cX0_addThing 56 = .ok (.iconst 1, 1) := by decide +kernel
theorem dX0_addThing_57 : decode cX0_addThing 57 = .ok (.iadd, 1) := by decide +kernel
theorem dX0_addThing_58 : decode cX0_addThing 58 = .ok (.putfield 9, 3) := by decide +kernel
theorem dX0_addThing_61 : decode cX0_addThing 61 = .ok (.return_, 1) := by decide +kernel
theorem dX0_copyFrom_0 : decode cX0_copyFrom 0 = .ok (.aload_n 0, 1) := by decide +kernel
theorem dX0_copyFrom_1 : decode cX0_copyFrom 1 = .ok (.aload_n 1, 1) := by decide +kernel
theorem dX0_copyFrom_2 : decode cX0_copyFrom 2 = .ok (.getfield 9, 3) := by decide +kernel
theorem dX0_copyFrom_5 : decode cX0_copyFrom 5 = .ok (.putfield 9, 3) := by decide +kernel
theorem dX0_copyFrom_8 : decode cX0_copyFrom 8 = .ok (.aload_n 0, 1) := by decide +kernel
theorem dX0_copyFrom_9 : decode cX0_copyFrom 9 = .ok (.aload_n 1, 1) := by decide +kernel
theorem dX0_copyFrom_10 : decode cX0_copyFrom 10 = .ok (.getfield 15, 3) := by decide +kernel
theorem dX0_copyFrom_13 : decode cX0_copyFrom 13 = .ok (.putfield 15, 3) := by decide +kernel
theorem dX0_copyFrom_16 : decode cX0_copyFrom 16 = .ok (.aload_n 0, 1) := by decide +kernel
theorem dX0_copyFrom_17 : decode cX0_copyFrom 17 = .ok (.aload_n 1, 1) := by decide +kernel
theorem dX0_copyFrom_18 : decode cX0_copyFrom 18 = .ok (.getfield 18, 3) := by decide +kernel
theorem dX0_copyFrom_21 : decode cX0_copyFrom 21 = .ok (.putfield 18, 3) := by decide +kernel
theorem dX0_copyFrom_24 : decode cX0_copyFrom 24 = .ok (.aload_n 1, 1) := by decide +kernel
theorem dX0_copyFrom_25 : decode cX0_copyFrom 25 = .ok (.getfield 21, 3) := by decide +kernel
theorem dX0_copyFrom_28 : decode cX0_copyFrom 28 = .ok (.iconst 0, 1) := by decide +kernel
theorem dX0_copyFrom_29 : decode cX0_copyFrom 29 = .ok (.aload_n 0, 1) := by decide +kernel
theorem dX0_copyFrom_30 : decode cX0_copyFrom 30 = .ok (.getfield 21, 3) := by decide +kernel
theorem dX0_copyFrom_33 : decode cX0_copyFrom 33 = .ok (.iconst 0, 1) := by decide +kernel
theorem dX0_copyFrom_34 : decode cX0_copyFrom 34 = .ok (.bipush 7, 2) := by decide +kernel
theorem dX0_copyFrom_36 : decode cX0_copyFrom 36 = .ok (.invokestatic 34, 3) := by decide +kernel
theorem dX0_copyFrom_39 : decode cX0_copyFrom 39 = .ok (.aload_n 1, 1) := by decide +kernel
theorem dX0_copyFrom_40 : decode cX0_copyFrom 40 = .ok (.getfield 25, 3) := by decide +kernel
theorem dX0_copyFrom_43 : decode cX0_copyFrom 43 = .ok (.iconst 0, 1) := by decide +kernel
theorem dX0_copyFrom_44 : decode cX0_copyFrom 44 = .ok (.aload_n 0, 1) := by decide +kernel
theorem dX0_copyFrom_45 : decode cX0_copyFrom 45 = .ok (.getfield 25, 3) := by decide +kernel
theorem dX0_copyFrom_48 : decode cX0_copyFrom 48 = .ok (.iconst 0, 1) := by decide +kernel
theorem dX0_copyFrom_49 : decode cX0_copyFrom 49 = .ok (.bipush 7, 2) := by decide +kernel
theorem dX0_copyFrom_51 : decode cX0_copyFrom 51 = .ok (.invokestatic 34, 3) := by decide +kernel
theorem dX0_copyFrom_54 : decode cX0_copyFrom 54 = .ok (.aload_n 1, 1) := by decide +kernel
theorem dX0_copyFrom_55 : decode cX0_copyFrom 55 = .ok (.getfield 28, 3) := by decide +kernel
theorem dX0_copyFrom_58 : decode cX0_copyFrom 58 = .ok (.iconst 0, 1) := by decide +kernel
theorem dX0_copyFrom_59 : decode cX0_copyFrom 59 = .ok (.aload_n 0, 1) := by decide +kernel
theorem dX0_copyFrom_60 : decode cX0_copyFrom 60 = .ok (.getfield 28, 3) := by decide +kernel
theorem dX0_copyFrom_63 : decode cX0_copyFrom 63 = .ok (.iconst 0, 1) := by decide +kernel
theorem dX0_copyFrom_64 : decode cX0_copyFrom 64 = .ok (.bipush 7, 2) := by decide +kernel
theorem dX0_copyFrom_66 : decode cX0_copyFrom 66 = .ok (.invokestatic 34, 3) := by decide +kernel
theorem dX0_copyFrom_69 : decode cX0_copyFrom 69 = .ok (.aload_n 1, 1) := by decide +kernel
theorem dX0_copyFrom_70 : decode cX0_copyFrom 70 = .ok (.getfield 31, 3) := by decide +kernel
theorem dX0_copyFrom_73 : decode cX0_copyFrom 73 = .ok (.iconst 0, 1) := by decide +kernel
theorem dX0_copyFrom_74 : decode cX0_copyFrom 74 = .ok (.aload_n 0, 1) := by decide +kernel
theorem dX0_copyFrom_75 : decode cX0_copyFrom 75 = .ok (.getfield 31, 3) := by decide +kernel
theorem dX0_copyFrom_78 : decode cX0_copyFrom 78 = .ok (.iconst 0, 1) := by decide +kernel
theorem dX0_copyFrom_79 : decode cX0_copyFrom 79 = .ok (.bipush 7, 2) := by decide +kernel
theorem dX0_copyFrom_81 : decode cX0_copyFrom 81 = .ok (.invokestatic 34, 3) := by decide +kernel
theorem dX0_copyFrom_84 : decode cX0_copyFrom 84 = .ok (.return_, 1) := by decide +kernel
theorem dX1_init_0 : decode cX1_init 0 = .ok (.aload_n 0, 1) := by decide +kernel
theorem dX1_init_1 : decode cX1_init 1 = .ok (.invokespecial 3, 3) := by decide +kernel
theorem dX1_init_4 : decode cX1_init 4 = .ok (.aload_n 0, 1) := by decide +kernel
theorem dX1_init_5 : decode cX1_init 5 = .ok (.bipush 6, 2) := by decide +kernel
theorem dX1_init_7 : decode cX1_init 7 = .ok (.newarray .int, 2) := by decide +kernel
theorem dX1_init_9 : decode cX1_init 9 = .ok (.putfield 9, 3) := by decide +kernel
theorem dX1_init_12 : decode cX1_init 12 = .ok (.aload_n 0, 1) := by decide +kernel
theorem dX1_init_13 : decode cX1_init 13 = .ok (.bipush 6, 2) := by decide +kernel
theorem dX1_init_15 : decode cX1_init 15 = .ok (.newarray .boolean, 2) := by decide +kernel
theorem dX1_init_17 : decode cX1_init 17 = .ok (.putfield 15, 3) := by decide +kernel
theorem dX1_init_20 : decode cX1_init 20 = .ok (.aload_n 0, 1) := by decide +kernel
theorem dX1_init_21 : decode cX1_init 21 = .ok (.iconst 0, 1) := by decide +kernel
theorem dX1_init_22 : decode cX1_init 22 = .ok (.putfield 19, 3) := by decide +kernel
theorem dX1_init_25 : decode cX1_init 25 = .ok (.aload_n 0, 1) := by decide +kernel
theorem dX1_init_26 : decode cX1_init 26 = .ok (.aload_n 1, 1) := by decide +kernel
theorem dX1_init_27 : decode cX1_init 27 = .ok (.putfield 23, 3) := by decide +kernel
theorem dX1_init_30 : decode cX1_init 30 = .ok (.return_, 1) := by decide +kernel
theorem dX1_write_0 : decode cX1_write 0 = .ok (.aload_n 0, 1) := by decide +kernel
theorem dX1_write_1 : decode cX1_write 1 = .ok (.getfield 19, 3) := by decide +kernel
theorem dX1_write_4 : decode cX1_write 4 = .ok (.bipush 6, 2) := by decide +kernel
theorem dX1_write_6 : decode cX1_write 6 = .ok (.if_icmp .lt 4, 3) := by decide +kernel
theorem dX1_write_9 : decode cX1_write 9 = .ok (.return_, 1) := by decide +kernel
theorem dX1_write_10 : decode cX1_write 10 = .ok (.aload_n 0, 1) := by decide +kernel
theorem dX1_write_11 : decode cX1_write 11 = .ok (.getfield 9, 3) := by decide +kernel
theorem dX1_write_14 : decode cX1_write 14 = .ok (.aload_n 0, 1) := by decide +kernel
theorem dX1_write_15 : decode cX1_write 15 = .ok (.getfield 19, 3) := by decide +kernel
theorem dX1_write_18 : decode cX1_write 18 = .ok (.iload_n 1, 1) := by decide +kernel
theorem dX1_write_19 : decode cX1_write 19 = .ok (.iastore, 1) := by decide +kernel
theorem dX1_write_20 : decode cX1_write 20 = .ok (.aload_n 0, 1) := by decide +kernel
theorem dX1_write_21 : decode cX1_write 21 = .ok (.getfield 15, 3) := by decide +kernel
theorem dX1_write_24 : decode cX1_write 24 = .ok (.aload_n 0, 1) := by decide +kernel
abbrev vwCl : List vw_C := [(RX0, TX0, 7), (RX1, TX1, 4), (RX2, TX2, 7), (RX3, TX3, 3), (RX4, TX4, 1), (RX5, TX5, 9), (RX6, TX6, 2), (RX7, TX7, 13), (RX8, TX8, 24)]
end
section
theorem dX1_write_25 : decode cX1_write 25 = .ok (.getfield 19, 3) := by decide +kernel
theorem dX1_write_28 : decode cX1_write 28 = .ok (.iload_n 2, 1) := by decide +kernel
theorem dX1_write_29 : decode cX1_write 29 = .ok (.bastore, 1) := by decide +kernel
theorem dX1_write_30 : decode cX1_write 30 = .ok (.aload_n 0, 1) := by decide +kernel
theorem dX1_write_31 : decode cX1_write 31 = .ok (.dup, 1) := by decide +kernel
theorem dX1_write_32 : decode cX1_write 32 = .ok (.getfield 19, 3) := by decide +kernel
theorem dX1_write_35 : decode cX1_write 35 = .ok (.iconst 1, 1) := by decide +kernel
theorem dX1_write_36 : decode cX1_write 36 = .ok (.iadd, 1) := by decide +kernel
theorem dX1_write_37 : decode cX1_write 37 = .ok (.putfield 19, 3) := by decide +kernel
theorem dX1_write_40 : decode cX1_write 40 = .ok (.return_, 1) := by decide +kernel
theorem dX1_tearUp_0 : decode cX1_tearUp 0 = .ok (.aload_n 0, 1) := by decide +kernel
theorem dX1_tearUp_1 : decode cX1_tearUp 1 = .ok (.iconst 0, 1) := by decide +kernel
theorem dX1_tearUp_2 : decode cX1_tearUp 2 = .ok (.putfield 19, 3) := by decide +kernel
theorem dX1_tearUp_5 : decode cX1_tearUp 5 = .ok (.return_, 1) := by decide +kernel
set_option maxRecDepth 20000 in
theorem ggX1_isSoIfFor_X6_yesIfFor : GoodIn wsX1_isSoIfFor wsX6_yesIfFor := goodIn_r _ [9, 10, 11, 12, 13, 14, 15, 16, 17, 8, 18, 19, 20, 21, 35, 36, 37, 38, 39, 40, 41, 42, 43, 44, 45, 46, 47, 48, 49, 50] (by decide +kernel) (by decide +kernel)
set_option maxRecDepth 20000 in
theorem gX1_isSoIfFor_X6_yesIfFor : GoodIn wsX1_isSoIfFor (wsV RX1 27 RX6 yX6_yesIfFor wsX6_yesIfFor) := goodIn_app (goodIn_of _ (by decide +kernel)) ggX1_isSoIfFor_X6_yesIfFor
set_option maxRecDepth 20000 in
theorem ggX1_isSoIfFor_X6_passesBy : GoodIn wsX1_isSoIfFor wsX6_passesBy := goodIn_r _ [25, 26, 27, 28, 8, 29, 19, 20, 30, 12, 13, 14, 35, 36, 44, 45, 46, 47, 48, 49, 50] (by decide +kernel) (by decide +kernel)
set_option maxRecDepth 20000 in
theorem gX1_isSoIfFor_X6_passesBy : GoodIn wsX1_isSoIfFor (wsV RX1 33 RX6 yX6_passesBy wsX6_passesBy) := goodIn_app (goodIn_of _ (by decide +kernel)) ggX1_isSoIfFor_X6_passesBy
theorem dX1_isSoIfFor_0 : decode cX1_isSoIfFor 0 = .ok (.iconst 0, 1) := by decide +kernel
theorem dX1_isSoIfFor_1 : decode cX1_isSoIfFor 1 = .ok (.istore 4, 2) := by decide +kernel
theorem dX1_isSoIfFor_3 : decode cX1_isSoIfFor 3 = .ok (.iload 4, 2) := by decide +kernel
theorem dX1_isSoIfFor_5 : decode cX1_isSoIfFor 5 = .ok (.aload_n 0, 1) := by decide +kernel
theorem dX1_isSoIfFor_6 : decode cX1_isSoIfFor 6 = .ok (.getfield 19, 3) := by decide +kernel
theorem dX1_isSoIfFor_9 : decode cX1_isSoIfFor 9 = .ok (.if_icmp .ge 45, 3) := by decide +kernel
theorem dX1_isSoIfFor_12 : decode cX1_isSoIfFor 12 = .ok (.aload_n 0, 1) := by decide +kernel
theorem dX1_isSoIfFor_13 : decode cX1_isSoIfFor 13 = .ok (.getfield 23, 3) := by decide +kernel
theorem dX1_isSoIfFor_16 : decode cX1_isSoIfFor 16 = .ok (.iload_n 3, 1) := by decide +kernel
theorem dX1_isSoIfFor_17 : decode cX1_isSoIfFor 17 = .ok (.aload_n 0, 1) := by decide +kernel
theorem dX1_isSoIfFor_18 : decode cX1_isSoIfFor 18 = .ok (.getfield 23, 3) := by decide +kernel
theorem dX1_isSoIfFor_21 : decode cX1_isSoIfFor 21 = .ok (.aload_n 0, 1) := by decide +kernel
theorem dX1_isSoIfFor_22 : decode cX1_isSoIfFor 22 = .ok (.getfield 9, 3) := by decide +kernel
theorem dX1_isSoIfFor_25 : decode cX1_isSoIfFor 25 = .ok (.iload 4, 2) := by decide +kernel
theorem dX1_isSoIfFor_27 : decode cX1_isSoIfFor 27 = .ok (.iaload, 1) := by decide +kernel
theorem dX1_isSoIfFor_28 : decode cX1_isSoIfFor 28 = .ok (.iload_n 1, 1) := by decide +kernel
theorem dX1_isSoIfFor_29 : decode cX1_isSoIfFor 29 = .ok (.iload_n 2, 1) := by decide +kernel
theorem dX1_isSoIfFor_30 : decode cX1_isSoIfFor 30 = .ok (.invokevirtual 27, 3) := by decide +kernel
theorem dX1_isSoIfFor_33 : decode cX1_isSoIfFor 33 = .ok (.invokevirtual 33, 3) := by decide +kernel
theorem dX1_isSoIfFor_36 : decode cX1_isSoIfFor 36 = .ok (.aload_n 0, 1) := by decide +kernel
theorem dX1_isSoIfFor_37 : decode cX1_isSoIfFor 37 = .ok (.getfield 15, 3) := by decide +kernel
theorem dX1_isSoIfFor_40 : decode cX1_isSoIfFor 40 = .ok (.iload 4, 2) := by decide +kernel
theorem dX1_isSoIfFor_42 : decode cX1_isSoIfFor 42 = .ok (.baload, 1) := by decide +kernel
theorem dX1_isSoIfFor_43 : decode cX1_isSoIfFor 43 = .ok (.if_icmp .eq 5, 3) := by decide +kernel
theorem dX1_isSoIfFor_46 : decode cX1_isSoIfFor 46 = .ok (.iconst 0, 1) := by decide +kernel
theorem dX1_isSoIfFor_47 : decode cX1_isSoIfFor 47 = .ok (.ireturn, 1) := by decide +kernel
theorem dX1_isSoIfFor_48 : decode cX1_isSoIfFor 48 = .ok (.iinc 4 1, 3) := by decide +kernel
theorem dX1_isSoIfFor_51 : decode cX1_isSoIfFor 51 = .ok (.goto (-48), 3) := by decide +kernel
theorem dX1_isSoIfFor_54 : decode cX1_isSoIfFor 54 = .ok (.iconst 1, 1) := by decide +kernel
theorem dX1_isSoIfFor_55 : decode cX1_isSoIfFor 55 = .ok (.ireturn, 1) := by decide +kernel
set_option maxRecDepth 20000 in
theorem ggX1_isSoIfSick_X6_voicesIfSick : GoodIn wsX1_isSoIfSick wsX6_voicesIfSick := goodIn_r _ [9, 10, 11, 12, 8, 13, 14, 15, 16, 17, 18, 19, 20, 21, 22, 23, 24, 25, 26, 27, 47, 48, 49, 50, 51, 52, 53, 54, 55, 56, 57, 58, 59, 60, 61, 62] (by decide +kernel) (by decide +kernel)
set_option maxRecDepth 20000 in
theorem gX1_isSoIfSick_X6_voicesIfSick : GoodIn wsX1_isSoIfSick (wsV RX1 37 RX6 yX6_voicesIfSick wsX6_voicesIfSick) := goodIn_app (goodIn_of _ (by decide +kernel)) ggX1_isSoIfSick_X6_voicesIfSick
set_option maxRecDepth 20000 in
theorem ggX1_isSoIfSick_X6_yesOf : GoodIn wsX1_isSoIfSick wsX6_yesOf := goodIn_r _ [31, 14, 15, 32, 17, 33, 25, 26, 27, 47, 48, 49, 50, 51, 52, 53, 54, 55, 56, 57, 58, 59, 60, 61, 62] (by decide +kernel) (by decide +kernel)
set_option maxRecDepth 20000 in
theorem gX1_isSoIfSick_X6_yesOf : GoodIn wsX1_isSoIfSick (wsV RX1 41 RX6 yX6_yesOf wsX6_yesOf) := goodIn_app (goodIn_of _ (by decide +kernel)) ggX1_isSoIfSick_X6_yesOf
set_option maxRecDepth 20000 in
theorem ggX1_isSoIfSick_X6_passesBy : GoodIn wsX1_isSoIfSick wsX6_passesBy := goodIn_r _ [37, 38, 39, 40, 8, 41, 14, 15, 42, 25, 26, 27, 47, 48, 49, 50, 51, 52, 53, 54, 55] (by decide +kernel) (by decide +kernel)
set_option maxRecDepth 20000 in
theorem gX1_isSoIfSick_X6_passesBy : GoodIn wsX1_isSoIfSick (wsV RX1 33 RX6 yX6_passesBy wsX6_passesBy) := goodIn_app (goodIn_of _ (by decide +kernel)) ggX1_isSoIfSick_X6_passesBy
theorem dX1_isSoIfSick_0 : decode cX1_isSoIfSick 0 = .ok (.aload_n 0, 1) := by decide +kernel
theorem dX1_isSoIfSick_1 : decode cX1_isSoIfSick 1 = .ok (.getfield 23, 3) := by decide +kernel
theorem dX1_isSoIfSick_4 : decode cX1_isSoIfSick 4 = .ok (.iload_n 1, 1) := by decide +kernel
theorem dX1_isSoIfSick_5 : decode cX1_isSoIfSick 5 = .ok (.invokevirtual 37, 3) := by decide +kernel
theorem dX1_isSoIfSick_8 : decode cX1_isSoIfSick 8 = .ok (.istore_n 2, 1) := by decide +kernel
theorem dX1_isSoIfSick_9 : decode cX1_isSoIfSick 9 = .ok (.iconst 0, 1) := by decide +kernel
theorem dX1_isSoIfSick_10 : decode cX1_isSoIfSick 10 = .ok (.istore_n 3, 1) := by decide +kernel
theorem dX1_isSoIfSick_11 : decode cX1_isSoIfSick 11 = .ok (.iload_n 3, 1) := by decide +kernel
theorem dX1_isSoIfSick_12 : decode cX1_isSoIfSick 12 = .ok (.aload_n 0, 1) := by decide +kernel
theorem dX1_isSoIfSick_13 : decode cX1_isSoIfSick 13 = .ok (.getfield 19, 3) := by decide +kernel
theorem dX1_isSoIfSick_16 : decode cX1_isSoIfSick 16 = .ok (.if_icmp .ge 41, 3) := by decide +kernel
theorem dX1_isSoIfSick_19 : decode cX1_isSoIfSick 19 = .ok (.aload_n 0, 1) := by decide +kernel
theorem dX1_isSoIfSick_20 : decode cX1_isSoIfSick 20 = .ok (.getfield 23, 3) := by decide +kernel
theorem dX1_isSoIfSick_23 : decode cX1_isSoIfSick 23 = .ok (.iload_n 2, 1) := by decide +kernel
theorem dX1_isSoIfSick_24 : decode cX1_isSoIfSick 24 = .ok (.aload_n 0, 1) := by decide +kernel
theorem dX1_isSoIfSick_25 : decode cX1_isSoIfSick 25 = .ok (.getfield 23, 3) := by decide +kernel
theorem dX1_isSoIfSick_28 : decode cX1_isSoIfSick 28 = .ok (.aload_n 0, 1) := by decide +kernel
theorem dX1_isSoIfSick_29 : decode cX1_isSoIfSick 29 = .ok (.getfield 9, 3) := by decide +kernel
theorem dX1_isSoIfSick_32 : decode cX1_isSoIfSick 32 = .ok (.iload_n 3, 1) := by decide +kernel
theorem dX1_isSoIfSick_33 : decode cX1_isSoIfSick 33 = .ok (.iaload, 1) := by decide +kernel
theorem dX1_isSoIfSick_34 : decode cX1_isSoIfSick 34 = .ok (.invokevirtual 41, 3) := by decide +kernel
theorem dX1_isSoIfSick_37 : decode cX1_isSoIfSick 37 = .ok (.invokevirtual 33, 3) := by decide +kernel
theorem dX1_isSoIfSick_40 : decode cX1_isSoIfSick 40 = .ok (.aload_n 0, 1) := by decide +kernel
theorem dX1_isSoIfSick_41 : decode cX1_isSoIfSick 41 = .ok (.getfield 15, 3) := by decide +kernel
theorem dX1_isSoIfSick_44 : decode cX1_isSoIfSick 44 = .ok (.iload_n 3, 1) := by decide +kernel
theorem dX1_isSoIfSick_45 : decode cX1_isSoIfSick 45 = .ok (.baload, 1) := by decide +kernel
theorem dX1_isSoIfSick_46 : decode cX1_isSoIfSick 46 = .ok (.if_icmp .eq 5, 3) := by decide +kernel
theorem dX1_isSoIfSick_49 : decode cX1_isSoIfSick 49 = .ok (.iconst 0, 1) := by decide +kernel
theorem dX1_isSoIfSick_50 : decode cX1_isSoIfSick 50 = .ok (.ireturn, 1) := by decide +kernel
theorem dX1_isSoIfSick_51 : decode cX1_isSoIfSick 51 = .ok (.iinc 3 1, 3) := by decide +kernel
theorem dX1_isSoIfSick_54 : decode cX1_isSoIfSick 54 = .ok (.goto (-43), 3) := by decide +kernel
theorem dX1_isSoIfSick_57 : decode cX1_isSoIfSick 57 = .ok (.iconst 1, 1) := by decide +kernel
theorem dX1_isSoIfSick_58 : decode cX1_isSoIfSick 58 = .ok (.ireturn, 1) := by decide +kernel
set_option maxRecDepth 20000 in
theorem ggX1_possibleSets_X6_voices : GoodIn wsX1_possibleSets wsX6_voices := goodIn_r _ [6, 7, 8, 9, 10, 11, 5, 12, 13, 14, 15, 16, 17, 18, 19, 20, 21, 22, 23, 24, 25, 26, 27, 28, 29, 61, 62, 63, 64, 65, 66, 67, 68, 69, 70, 71, 72, 73, 74, 75, 76] (by decide +kernel) (by decide +kernel)
set_option maxRecDepth 20000 in
theorem gX1_possibleSets_X6_voices : GoodIn wsX1_possibleSets (wsV RX1 44 RX6 yX6_voices wsX6_voices) := goodIn_app (goodIn_of _ (by decide +kernel)) ggX1_possibleSets_X6_voices
set_option maxRecDepth 20000 in
theorem ggX1_possibleSets_X1_isSoIfFor : GoodIn wsX1_possibleSets wsX1_isSoIfFor := goodIn_r _ [34, 35, 1, 36, 37, 38, 39, 40, 5, 41, 7, 42, 27, 28, 29, 43, 44, 45, 46, 17, 18, 47, 48, 49, 50, 51, 52, 53, 54, 55, 56, 57, 58, 59, 60, 61, 62, 63, 64, 65, 66, 67, 68, 69, 70, 71, 72, 73, 74, 75, 76] (by decide +kernel) (by decide +kernel)
set_option maxRecDepth 20000 in
theorem gX1_possibleSets_X1_isSoIfFor : GoodIn wsX1_possibleSets (wsV RX1 48 RX1 yX1_isSoIfFor wsX1_isSoIfFor) := goodIn_app (goodIn_of _ (by decide +kernel)) ggX1_possibleSets_X1_isSoIfFor
theorem dX1_possibleSets_0 : decode cX1_possibleSets 0 = .ok (.aload_n 0, 1) := by decide +kernel
theorem dX1_possibleSets_1 : decode cX1_possibleSets 1 = .ok (.getfield 23, 3) := by decide +kernel
theorem dX1_possibleSets_4 : decode cX1_possibleSets 4 = .ok (.invokevirtual 44, 3) := by decide +kernel
theorem dX1_possibleSets_7 : decode cX1_possibleSets 7 = .ok (.istore_n 2, 1) := by decide +kernel
theorem dX1_possibleSets_8 : decode cX1_possibleSets 8 = .ok (.iconst 0, 1) := by decide +kernel
theorem dX1_possibleSets_9 : decode cX1_possibleSets 9 = .ok (.istore_n 3, 1) := by decide +kernel
theorem dX1_possibleSets_10 : decode cX1_possibleSets 10 = .ok (.iconst 0, 1) := by decide +kernel
theorem dX1_possibleSets_11 : decode cX1_possibleSets 11 = .ok (.istore 4, 2) := by decide +kernel
theorem dX1_possibleSets_13 : decode cX1_possibleSets 13 = .ok (.iload 4, 2) := by decide +kernel
theorem dX1_possibleSets_15 : decode cX1_possibleSets 15 = .ok (.bipush 32, 2) := by decide +kernel
theorem dX1_possibleSets_17 : decode cX1_possibleSets 17 = .ok (.if_icmp .ge 23, 3) := by decide +kernel
theorem dX1_possibleSets_20 : decode cX1_possibleSets 20 = .ok (.aload_n 0, 1) := by decide +kernel
theorem dX1_possibleSets_21 : decode cX1_possibleSets 21 = .ok (.iload_n 1, 1) := by decide +kernel
theorem dX1_possibleSets_22 : decode cX1_possibleSets 22 = .ok (.iload 4, 2) := by decide +kernel
theorem dX1_possibleSets_24 : decode cX1_possibleSets 24 = .ok (.iload_n 2, 1) := by decide +kernel
theorem dX1_possibleSets_25 : decode cX1_possibleSets 25 = .ok (.invokevirtual 48, 3) := by decide +kernel
theorem dX1_possibleSets_28 : decode cX1_possibleSets 28 = .ok (.ifCond .eq 6, 3) := by decide +kernel
theorem dX1_possibleSets_31 : decode cX1_possibleSets 31 = .ok (.iinc 3 1, 3) := by decide +kernel
theorem dX1_possibleSets_34 : decode cX1_possibleSets 34 = .ok (.iinc 4 1, 3) := by decide +kernel
theorem dX1_possibleSets_37 : decode cX1_possibleSets 37 = .ok (.goto (-24), 3) := by decide +kernel
theorem dX1_possibleSets_40 : decode cX1_possibleSets 40 = .ok (.iload_n 3, 1) := by decide +kernel
theorem dX1_possibleSets_41 : decode cX1_possibleSets 41 = .ok (.ireturn, 1) := by decide +kernel
set_option maxRecDepth 20000 in
theorem ggX1_leastPossibleSet_X6_voices : GoodIn wsX1_leastPossibleSet wsX6_voices := goodIn_r _ [6, 7, 8, 9, 10, 11, 5, 12, 13, 14, 15, 16, 17, 18, 19, 20, 21, 22, 23, 24, 25, 26, 27, 28, 29, 61, 62, 63, 64, 65, 66, 67, 68, 69, 70, 71, 72, 73, 74, 75, 76] (by decide +kernel) (by decide +kernel)
set_option maxRecDepth 20000 in
theorem gX1_leastPossibleSet_X6_voices : GoodIn wsX1_leastPossibleSet (wsV RX1 44 RX6 yX6_voices wsX6_voices) := goodIn_app (goodIn_of _ (by decide +kernel)) ggX1_leastPossibleSet_X6_voices
set_option maxRecDepth 20000 in
theorem ggX1_leastPossibleSet_X1_isSoIfFor : GoodIn wsX1_leastPossibleSet wsX1_isSoIfFor := goodIn_r _ [34, 35, 1, 36, 37, 38, 39, 40, 5, 41, 7, 42, 27, 28, 29, 43, 44, 45, 46, 17, 18, 47, 48, 49, 50, 51, 52, 53, 54, 55, 56, 57, 58, 59, 60, 61, 62, 63, 64, 65, 66, 67, 68, 69, 70, 71, 72, 73, 74, 75, 76] (by decide +kernel) (by decide +kernel)
set_option maxRecDepth 20000 in
theorem gX1_leastPossibleSet_X1_isSoIfFor : GoodIn wsX1_leastPossibleSet (wsV RX1 48 RX1 yX1_isSoIfFor wsX1_isSoIfFor) := goodIn_app (goodIn_of _ (by decide +kernel)) ggX1_leastPossibleSet_X1_isSoIfFor
theorem dX1_leastPossibleSet_0 : decode cX1_leastPossibleSet 0 = .ok (.aload_n 0, 1) := by decide +kernel
theorem dX1_leastPossibleSet_1 : decode cX1_leastPossibleSet 1 = .ok (.getfield 23, 3) := by decide +kernel
theorem dX1_leastPossibleSet_4 : decode cX1_leastPossibleSet 4 = .ok (.invokevirtual 44, 3) := by decide +kernel
theorem dX1_leastPossibleSet_7 : decode cX1_leastPossibleSet 7 = .ok (.istore_n 2, 1) := by decide +kernel
theorem dX1_leastPossibleSet_8 : decode cX1_leastPossibleSet 8 = .ok (.iconst 0, 1) := by decide +kernel
theorem dX1_leastPossibleSet_9 : decode cX1_leastPossibleSet 9 = .ok (.istore_n 3, 1) := by decide +kernel
theorem dX1_leastPossibleSet_10 : decode cX1_leastPossibleSet 10 = .ok (.iload_n 3, 1) := by decide +kernel
theorem dX1_leastPossibleSet_11 : decode cX1_leastPossibleSet 11 = .ok (.bipush 32, 2) := by decide +kernel
theorem dX1_leastPossibleSet_13 : decode cX1_leastPossibleSet 13 = .ok (.if_icmp .ge 21, 3) := by decide +kernel
theorem dX1_leastPossibleSet_16 : decode cX1_leastPossibleSet 16 = .ok (.aload_n 0, 1) := by decide +kernel
theorem dX1_leastPossibleSet_17 : decode cX1_leastPossibleSet 17 = .ok (.iload_n 1, 1) := by decide +kernel
theorem dX1_leastPossibleSet_18 : decode cX1_leastPossibleSet 18 = .ok (.iload_n 3, 1) := by decide +kernel
theorem dX1_leastPossibleSet_19 : decode cX1_leastPossibleSet 19 = .ok (.iload_n 2, 1) := by decide +kernel
theorem dX1_leastPossibleSet_20 : decode cX1_leastPossibleSet 20 = .ok (.invokevirtual 48, 3) := by decide +kernel
theorem dX1_leastPossibleSet_23 : decode cX1_leastPossibleSet 23 = .ok (.ifCond .eq 5, 3) := by decide +kernel
theorem dX1_leastPossibleSet_26 : decode cX1_leastPossibleSet 26 = .ok (.iload_n 3, 1) := by decide +kernel
theorem dX1_leastPossibleSet_27 : decode cX1_leastPossibleSet 27 = .ok (.ireturn, 1) := by decide +kernel
theorem dX1_leastPossibleSet_28 : decode cX1_leastPossibleSet 28 = .ok (.iinc 3 1, 3) := by decide +kernel
theorem dX1_leastPossibleSet_31 : decode cX1_leastPossibleSet 31 = .ok (.goto (-21), 3) := by decide +kernel
theorem dX1_leastPossibleSet_34 : decode cX1_leastPossibleSet 34 = .ok (.bipush (-9), 2) := by decide +kernel
theorem dX1_leastPossibleSet_36 : decode cX1_leastPossibleSet 36 = .ok (.ireturn, 1) := by decide +kernel
set_option maxRecDepth 20000 in
theorem ggX1_possiblySick_X1_isSoIfSick : GoodIn wsX1_possiblySick wsX1_isSoIfSick := goodIn_r _ [8, 1, 9, 10, 11, 12, 13, 14, 15, 16, 17, 18, 19, 20, 21, 22, 23, 24, 25, 26, 27, 28, 29, 30, 31, 32, 33, 34, 35, 36, 37, 38, 39, 40, 41, 42, 43, 44, 45, 46, 47, 48, 49, 50, 51, 52, 53, 54, 55, 56, 57, 58, 59, 60, 61, 62, 63, 64, 65, 66, 67, 68, 69] (by decide +kernel) (by decide +kernel)
set_option maxRecDepth 20000 in
theorem gX1_possiblySick_X1_isSoIfSick : GoodIn wsX1_possiblySick (wsV RX1 52 RX1 yX1_isSoIfSick wsX1_isSoIfSick) := goodIn_app (goodIn_of _ (by decide +kernel)) ggX1_possiblySick_X1_isSoIfSick
theorem dX1_possiblySick_0 : decode cX1_possiblySick 0 = .ok (.aload_n 0, 1) := by decide +kernel
theorem dX1_possiblySick_1 : decode cX1_possiblySick 1 = .ok (.iconst 0, 1) := by decide +kernel
theorem dX1_possiblySick_2 : decode cX1_possiblySick 2 = .ok (.invokevirtual 52, 3) := by decide +kernel
theorem dX1_possiblySick_5 : decode cX1_possiblySick 5 = .ok (.ifCond .eq 8, 3) := by decide +kernel
theorem dX1_possiblySick_8 : decode cX1_possiblySick 8 = .ok (.bipush 32, 2) := by decide +kernel
theorem dX1_possiblySick_10 : decode cX1_possiblySick 10 = .ok (.goto 4, 3) := by decide +kernel
theorem dX1_possiblySick_13 : decode cX1_possiblySick 13 = .ok (.iconst 0, 1) := by decide +kernel
theorem dX1_possiblySick_14 : decode cX1_possiblySick 14 = .ok (.istore_n 1, 1) := by decide +kernel
theorem dX1_possiblySick_15 : decode cX1_possiblySick 15 = .ok (.iconst 0, 1) := by decide +kernel
theorem dX1_possiblySick_16 : decode cX1_possiblySick 16 = .ok (.istore_n 2, 1) := by decide +kernel
theorem dX1_possiblySick_17 : decode cX1_possiblySick 17 = .ok (.iload_n 2, 1) := by decide +kernel
theorem dX1_possiblySick_18 : decode cX1_possiblySick 18 = .ok (.aload_n 0, 1) := by decide +kernel
theorem dX1_possiblySick_19 : decode cX1_possiblySick 19 = .ok (.getfield 23, 3) := by decide +kernel
theorem dX1_possiblySick_22 : decode cX1_possiblySick 22 = .ok (.getfield 56, 3) := by decide +kernel
theorem dX1_possiblySick_25 : decode cX1_possiblySick 25 = .ok (.getfield 60, 3) := by decide +kernel
theorem dX1_possiblySick_28 : decode cX1_possiblySick 28 = .ok (.if_icmp .ge 25, 3) := by decide +kernel
theorem dX1_possiblySick_31 : decode cX1_possiblySick 31 = .ok (.aload_n 0, 1) := by decide +kernel
theorem dX1_possiblySick_32 : decode cX1_possiblySick 32 = .ok (.iconst 1, 1) := by decide +kernel
theorem dX1_possiblySick_33 : decode cX1_possiblySick 33 = .ok (.iload_n 2, 1) := by decide +kernel
theorem dX1_possiblySick_34 : decode cX1_possiblySick 34 = .ok (.ishl, 1) := by decide +kernel
theorem dX1_possiblySick_35 : decode cX1_possiblySick 35 = .ok (.invokevirtual 52, 3) := by decide +kernel
theorem dX1_possiblySick_38 : decode cX1_possiblySick 38 = .ok (.ifCond .eq 9, 3) := by decide +kernel
theorem dX1_possiblySick_41 : decode cX1_possiblySick 41 = .ok (.iload_n 1, 1) := by decide +kernel
theorem dX1_possiblySick_42 : decode cX1_possiblySick 42 = .ok (.iconst 1, 1) := by decide +kernel
theorem dX1_possiblySick_43 : decode cX1_possiblySick 43 = .ok (.iload_n 2, 1) := by decide +kernel
theorem dX1_possiblySick_44 : decode cX1_possiblySick 44 = .ok (.ishl, 1) := by decide +kernel
theorem dX1_possiblySick_45 : decode cX1_possiblySick 45 = .ok (.ior, 1) := by decide +kernel
theorem dX1_possiblySick_46 : decode cX1_possiblySick 46 = .ok (.istore_n 1, 1) := by decide +kernel
theorem dX1_possiblySick_47 : decode cX1_possiblySick 47 = .ok (.iinc 2 1, 3) := by decide +kernel
theorem dX1_possiblySick_50 : decode cX1_possiblySick 50 = .ok (.goto (-33), 3) := by decide +kernel
theorem dX1_possiblySick_53 : decode cX1_possiblySick 53 = .ok (.iload_n 1, 1) := by decide +kernel
theorem dX1_possiblySick_54 : decode cX1_possiblySick 54 = .ok (.ireturn, 1) := by decide +kernel
theorem dX2_init_0 : decode cX2_init 0 = .ok (.aload_n 0, 1) := by decide +kernel
theorem dX2_init_1 : decode cX2_init 1 = .ok (.invokespecial 3, 3) := by decide +kernel
theorem dX2_init_4 : decode cX2_init 4 = .ok (.aload_n 0, 1) := by decide +kernel
theorem dX2_init_5 : decode cX2_init 5 = .ok (.bipush 7, 2) := by decide +kernel
theorem dX2_init_7 : decode cX2_init 7 = .ok (.newarray .int, 2) := by decide +kernel
theorem dX2_init_9 : decode cX2_init 9 = .ok (.putfield 9, 3) := by decide +kernel
theorem dX2_init_12 : decode cX2_init 12 = .ok (.aload_n 0, 1) := by decide +kernel
theorem dX2_init_13 : decode cX2_init 13 = .ok (.bipush 7, 2) := by decide +kernel
theorem dX2_init_15 : decode cX2_init 15 = .ok (.newarray .int, 2) := by decide +kernel
theorem dX2_init_17 : decode cX2_init 17 = .ok (.putfield 15, 3) := by decide +kernel
theorem dX2_init_20 : decode cX2_init 20 = .ok (.aload_n 0, 1) := by decide +kernel
theorem dX2_init_21 : decode cX2_init 21 = .ok (.iconst 0, 1) := by decide +kernel
theorem dX2_init_22 : decode cX2_init 22 = .ok (.putfield 18, 3) := by decide +kernel
theorem dX2_init_25 : decode cX2_init 25 = .ok (.aload_n 0, 1) := by decide +kernel
theorem dX2_init_26 : decode cX2_init 26 = .ok (.iconst 0, 1) := by decide +kernel
theorem dX2_init_27 : decode cX2_init 27 = .ok (.putfield 22, 3) := by decide +kernel
theorem dX2_init_30 : decode cX2_init 30 = .ok (.aload_n 0, 1) := by decide +kernel
theorem dX2_init_31 : decode cX2_init 31 = .ok (.iconst 0, 1) := by decide +kernel
theorem dX2_init_32 : decode cX2_init 32 = .ok (.putfield 25, 3) := by decide +kernel
theorem dX2_init_35 : decode cX2_init 35 = .ok (.aload_n 0, 1) := by decide +kernel
theorem dX2_init_36 : decode cX2_init 36 = .ok (.iconst 0, 1) := by decide +kernel
theorem dX2_init_37 : decode cX2_init 37 = .ok (.putfield 28, 3) := by decide +kernel
theorem dX2_init_40 : decode cX2_init 40 = .ok (.aload_n 0, 1) := by decide +kernel
theorem dX2_init_41 : decode cX2_init 41 = .ok (.iconst 0, 1) := by decide +kernel
theorem dX2_init_42 : decode cX2_init 42 = .ok (.putfield 31, 3) := by decide +kernel
theorem dX2_init_45 : decode cX2_init 45 = .ok (.return_, 1) := by decide +kernel
set_option maxRecDepth 20000 in
theorem ggX2_beginWith_J7_fill_53178 : GoodIn wsX2_beginWith wsJ7_fill_53178 := goodIn_r _ [16] (by decide +kernel) (by decide +kernel)
set_option maxRecDepth 20000 in
theorem gX2_beginWith_J7_fill_53178 : GoodIn wsX2_beginWith (va_wsS RX2 45 yJ7_fill_53178 wsJ7_fill_53178) := goodIn_app (goodIn_of _ (by decide +kernel)) ggX2_beginWith_J7_fill_53178
theorem dX2_beginWith_0 : decode cX2_beginWith 0 = .ok (.aload_n 1, 1) := by decide +kernel
theorem dX2_beginWith_1 : decode cX2_beginWith 1 = .ok (.getfield 34, 3) := by decide +kernel
theorem dX2_beginWith_4 : decode cX2_beginWith 4 = .ok (.iconst 0, 1) := by decide +kernel
theorem dX2_beginWith_5 : decode cX2_beginWith 5 = .ok (.aload_n 0, 1) := by decide +kernel
theorem dX2_beginWith_6 : decode cX2_beginWith 6 = .ok (.getfield 9, 3) := by decide +kernel
theorem dX2_beginWith_9 : decode cX2_beginWith 9 = .ok (.iconst 0, 1) := by decide +kernel
theorem dX2_beginWith_10 : decode cX2_beginWith 10 = .ok (.bipush 7, 2) := by decide +kernel
theorem dX2_beginWith_12 : decode cX2_beginWith 12 = .ok (.invokestatic 39, 3) := by decide +kernel
theorem dX2_beginWith_15 : decode cX2_beginWith 15 = .ok (.aload_n 0, 1) := by decide +kernel
theorem dX2_beginWith_16 : decode cX2_beginWith 16 = .ok (.getfield 15, 3) := by decide +kernel
theorem dX2_beginWith_19 : decode cX2_beginWith 19 = .ok (.iconst 0, 1) := by decide +kernel
theorem dX2_beginWith_20 : decode cX2_beginWith 20 = .ok (.invokestatic 45, 3) := by decide +kernel
theorem dX2_beginWith_23 : decode cX2_beginWith 23 = .ok (.aload_n 0, 1) := by decide +kernel
theorem dX2_beginWith_24 : decode cX2_beginWith 24 = .ok (.iconst 0, 1) := by decide +kernel
theorem dX2_beginWith_25 : decode cX2_beginWith 25 = .ok (.putfield 18, 3) := by decide +kernel
theorem dX2_beginWith_28 : decode cX2_beginWith 28 = .ok (.aload_n 0, 1) := by decide +kernel
theorem dX2_beginWith_29 : decode cX2_beginWith 29 = .ok (.iconst 0, 1) := by decide +kernel
theorem dX2_beginWith_30 : decode cX2_beginWith 30 = .ok (.putfield 22, 3) := by decide +kernel
theorem dX2_beginWith_33 : decode cX2_beginWith 33 = .ok (.aload_n 0, 1) := by decide +kernel
theorem dX2_beginWith_34 : decode cX2_beginWith 34 = .ok (.iconst 0, 1) := by decide +kernel
theorem dX2_beginWith_35 : decode cX2_beginWith 35 = .ok (.putfield 25, 3) := by decide +kernel
theorem dX2_beginWith_38 : decode cX2_beginWith 38 = .ok (.aload_n 0, 1) := by decide +kernel
theorem dX2_beginWith_39 : decode cX2_beginWith 39 = .ok (.iconst 0, 1) := by decide +kernel
theorem dX2_beginWith_40 : decode cX2_beginWith 40 = .ok (.putfield 28, 3) := by decide +kernel
theorem dX2_beginWith_43 : decode cX2_beginWith 43 = .ok (.aload_n 0, 1) := by decide +kernel
theorem dX2_beginWith_44 : decode cX2_beginWith 44 = .ok (.iconst 0, 1) := by decide +kernel
theorem dX2_beginWith_45 : decode cX2_beginWith 45 = .ok (.putfield 31, 3) := by decide +kernel
theorem dX2_beginWith_48 : decode cX2_beginWith 48 = .ok (.return_, 1) := by decide +kernel
theorem dX2_cool_0 : decode cX2_cool 0 = .ok (.iconst 0, 1) := by decide +kernel
theorem dX2_cool_1 : decode cX2_cool 1 = .ok (.istore_n 1, 1) := by decide +kernel
theorem dX2_cool_2 : decode cX2_cool 2 = .ok (.iload_n 1, 1) := by decide +kernel
theorem dX2_cool_3 : decode cX2_cool 3 = .ok (.bipush 7, 2) := by decide +kernel
theorem dX2_cool_5 : decode cX2_cool 5 = .ok (.if_icmp .ge 28, 3) := by decide +kernel
theorem dX2_cool_8 : decode cX2_cool 8 = .ok (.aload_n 0, 1) := by decide +kernel
theorem dX2_cool_9 : decode cX2_cool 9 = .ok (.getfield 15, 3) := by decide +kernel
theorem dX2_cool_12 : decode cX2_cool 12 = .ok (.iload_n 1, 1) := by decide +kernel
theorem dX2_cool_13 : decode cX2_cool 13 = .ok (.iaload, 1) := by decide +kernel
theorem dX2_cool_14 : decode cX2_cool 14 = .ok (.ifCond .le 13, 3) := by decide +kernel
theorem dX2_cool_17 : decode cX2_cool 17 = .ok (.aload_n 0, 1) := by decide +kernel
theorem dX2_cool_18 : decode cX2_cool 18 = .ok (.getfield 15, 3) := by decide +kernel
theorem dX2_cool_21 : decode cX2_cool 21 = .ok (.iload_n 1, 1) := by decide +kernel
theorem dX2_cool_22 : decode cX2_cool 22 = .ok (.dup2, 1) := by decide +kernel
theorem dX2_cool_23 : decode cX2_cool 23 = .ok (.iaload, 1) := by decide +kernel
theorem dX2_cool_24 : decode cX2_cool 24 = .ok (.iconst 1, 1) := by decide +kernel
theorem dX2_cool_25 : decode cX2_cool 25 = .ok (.isub, 1) := by decide +kernel
theorem dX2_cool_26 : decode cX2_cool 26 = .ok (.iastore, 1) := by decide +kernel
theorem dX2_cool_27 : decode cX2_cool 27 = .ok (.iinc 1 1, 3) := by decide +kernel
theorem dX2_cool_30 : decode cX2_cool 30 = .ok (.goto (-28), 3) := by decide +kernel
theorem dX2_cool_33 : decode cX2_cool 33 = .ok (.return_, 1) := by decide +kernel
theorem dX2_copyFrom_0 : decode cX2_copyFrom 0 = .ok (.aload_n 1, 1) := by decide +kernel
theorem dX2_copyFrom_1 : decode cX2_copyFrom 1 = .ok (.getfield 9, 3) := by decide +kernel
theorem dX2_copyFrom_4 : decode cX2_copyFrom 4 = .ok (.iconst 0, 1) := by decide +kernel
theorem dX2_copyFrom_5 : decode cX2_copyFrom 5 = .ok (.aload_n 0, 1) := by decide +kernel
theorem dX2_copyFrom_6 : decode cX2_copyFrom 6 = .ok (.getfield 9, 3) := by decide +kernel
theorem dX2_copyFrom_9 : decode cX2_copyFrom 9 = .ok (.iconst 0, 1) := by decide +kernel
theorem dX2_copyFrom_10 : decode cX2_copyFrom 10 = .ok (.bipush 7, 2) := by decide +kernel
theorem dX2_copyFrom_12 : decode cX2_copyFrom 12 = .ok (.invokestatic 39, 3) := by decide +kernel
theorem dX2_copyFrom_15 : decode cX2_copyFrom 15 = .ok (.aload_n 1, 1) := by decide +kernel
theorem dX2_copyFrom_16 : decode cX2_copyFrom 16 = .ok (.getfield 15, 3) := by decide +kernel
theorem dX2_copyFrom_19 : decode cX2_copyFrom 19 = .ok (.iconst 0, 1) := by decide +kernel
theorem dX2_copyFrom_20 : decode cX2_copyFrom 20 = .ok (.aload_n 0, 1) := by decide +kernel
theorem dX2_copyFrom_21 : decode cX2_copyFrom 21 = .ok (.getfield 15, 3) := by decide +kernel
theorem dX2_copyFrom_24 : decode cX2_copyFrom 24 = .ok (.iconst 0, 1) := by decide +kernel
theorem dX2_copyFrom_25 : decode cX2_copyFrom 25 = .ok (.bipush 7, 2) := by decide +kernel
theorem dX2_copyFrom_27 : decode cX2_copyFrom 27 = .ok (.invokestatic 39, 3) := by decide +kernel
theorem dX2_copyFrom_30 : decode cX2_copyFrom 30 = .ok (.aload_n 0, 1) := by decide +kernel
theorem dX2_copyFrom_31 : decode cX2_copyFrom 31 = .ok (.aload_n 1, 1) := by decide +kernel
theorem dX2_copyFrom_32 : decode cX2_copyFrom 32 = .ok (.getfield 18, 3) := by decide +kernel
theorem dX2_copyFrom_35 : decode cX2_copyFrom 35 = .ok (.putfield 18, 3) := by decide +kernel
theorem dX2_copyFrom_38 : decode cX2_copyFrom 38 = .ok (.aload_n 0, 1) := by decide +kernel
theorem dX2_copyFrom_39 : decode cX2_copyFrom 39 = .ok (.aload_n 1, 1) := by decide +kernel
theorem dX2_copyFrom_40 : decode cX2_copyFrom 40 = .ok (.getfield 22, 3) := by decide +kernel
theorem dX2_copyFrom_43 : decode cX2_copyFrom 43 = .ok (.putfield 22, 3) := by decide +kernel
theorem dX2_copyFrom_46 : decode cX2_copyFrom 46 = .ok (.aload_n 0, 1) := by decide +kernel
theorem dX2_copyFrom_47 : decode cX2_copyFrom 47 = .ok (.aload_n 1, 1) := by decide +kernel
theorem dX2_copyFrom_48 : decode cX2_copyFrom 48 = .ok (.getfield 25, 3) := by decide +kernel
theorem dX2_copyFrom_51 : decode cX2_copyFrom 51 = .ok (.putfield 25, 3) := by decide +kernel
theorem dX2_copyFrom_54 : decode cX2_copyFrom 54 = .ok (.aload_n 0, 1) := by decide +kernel
theorem dX2_copyFrom_55 : decode cX2_copyFrom 55 = .ok (.aload_n 1, 1) := by decide +kernel
theorem dX2_copyFrom_56 : decode cX2_copyFrom 56 = .ok (.getfield 28, 3) := by decide +kernel
theorem dX2_copyFrom_59 : decode cX2_copyFrom 59 = .ok (.putfield 28, 3) := by decide +kernel
theorem dX2_copyFrom_62 : decode cX2_copyFrom 62 = .ok (.aload_n 0, 1) := by decide +kernel
theorem dX2_copyFrom_63 : decode cX2_copyFrom 63 = .ok (.aload_n 1, 1) := by decide +kernel
theorem dX2_copyFrom_64 : decode cX2_copyFrom 64 = .ok (.getfield 31, 3) := by decide +kernel
theorem dX2_copyFrom_67 : decode cX2_copyFrom 67 = .ok (.putfield 31, 3) := by decide +kernel
theorem dX2_copyFrom_70 : decode cX2_copyFrom 70 = .ok (.return_, 1) := by decide +kernel
set_option maxRecDepth 20000 in
theorem ggX3_init_X2_init : GoodIn wsX3_init wsX2_init := goodIn_r _ [11, 12, 2, 3, 13, 14, 15, 16, 17, 18, 19, 20, 24, 25, 26, 27, 28, 29, 30] (by decide +kernel) (by decide +kernel)
set_option maxRecDepth 20000 in
theorem gX3_init_X2_init_n24 : GoodIn wsX3_init (wsX2_init) := ggX3_init_X2_init
theorem dX3_init_0 : decode cX3_init 0 = .ok (.aload_n 0, 1) := by decide +kernel
theorem dX3_init_1 : decode cX3_init 1 = .ok (.invokespecial 3, 3) := by decide +kernel
theorem dX3_init_4 : decode cX3_init 4 = .ok (.aload_n 0, 1) := by decide +kernel
theorem dX3_init_5 : decode cX3_init 5 = .ok (.bipush 10, 2) := by decide +kernel
theorem dX3_init_7 : decode cX3_init 7 = .ok (.anewarray 9, 3) := by decide +kernel
theorem dX3_init_10 : decode cX3_init 10 = .ok (.putfield 11, 3) := by decide +kernel
theorem dX3_init_13 : decode cX3_init 13 = .ok (.aload_n 0, 1) := by decide +kernel
theorem dX3_init_14 : decode cX3_init 14 = .ok (.iconst 0, 1) := by decide +kernel
theorem dX3_init_15 : decode cX3_init 15 = .ok (.putfield 17, 3) := by decide +kernel
theorem dX3_init_18 : decode cX3_init 18 = .ok (.aload_n 0, 1) := by decide +kernel
theorem dX3_init_19 : decode cX3_init 19 = .ok (.iconst 0, 1) := by decide +kernel
theorem dX3_init_20 : decode cX3_init 20 = .ok (.putfield 21, 3) := by decide +kernel
theorem dX3_init_23 : decode cX3_init 23 = .ok (.iconst 0, 1) := by decide +kernel
theorem dX3_init_24 : decode cX3_init 24 = .ok (.istore_n 1, 1) := by decide +kernel
theorem dX3_init_25 : decode cX3_init 25 = .ok (.iload_n 1, 1) := by decide +kernel
theorem dX3_init_26 : decode cX3_init 26 = .ok (.bipush 10, 2) := by decide +kernel
theorem dX3_init_28 : decode cX3_init 28 = .ok (.if_icmp .ge 22, 3) := by decide +kernel
theorem dX3_init_31 : decode cX3_init 31 = .ok (.aload_n 0, 1) := by decide +kernel
theorem dX3_init_32 : decode cX3_init 32 = .ok (.getfield 11, 3) := by decide +kernel
theorem dX3_init_35 : decode cX3_init 35 = .ok (.iload_n 1, 1) := by decide +kernel
theorem dX3_init_36 : decode cX3_init 36 = .ok (.new 9, 3) := by decide +kernel
theorem dX3_init_39 : decode cX3_init 39 = .ok (.dup, 1) := by decide +kernel
theorem dX3_init_40 : decode cX3_init 40 = .ok (.invokespecial 24, 3) := by decide +kernel
theorem dX3_init_43 : decode cX3_init 43 = .ok (.aastore, 1) := by decide +kernel
theorem dX3_init_44 : decode cX3_init 44 = .ok (.iinc 1 1, 3) := by decide +kernel
theorem dX3_init_47 : decode cX3_init 47 = .ok (.goto (-22), 3) := by decide +kernel
theorem dX3_init_50 : decode cX3_init 50 = .ok (.return_, 1) := by decide +kernel
set_option maxRecDepth 20000 in
theorem ggX3_remember_X2_copyFrom : GoodIn wsX3_remember wsX2_copyFrom := goodIn_r _ [12, 13, 14, 15, 16, 17, 18, 19, 20, 21, 22, 23, 27, 28, 29, 30, 31, 32, 33] (by decide +kernel) (by decide +kernel)
set_option maxRecDepth 20000 in
theorem gX3_remember_X2_copyFrom : GoodIn wsX3_remember (wsV RX3 25 RX2 yX2_copyFrom wsX2_copyFrom) := goodIn_app (goodIn_of _ (by decide +kernel)) ggX3_remember_X2_copyFrom
theorem dX3_remember_0 : decode cX3_remember 0 = .ok (.aload_n 0, 1) := by decide +kernel
theorem dX3_remember_1 : decode cX3_remember 1 = .ok (.getfield 11, 3) := by decide +kernel
theorem dX3_remember_4 : decode cX3_remember 4 = .ok (.aload_n 0, 1) := by decide +kernel
theorem dX3_remember_5 : decode cX3_remember 5 = .ok (.getfield 17, 3) := by decide +kernel
theorem dX3_remember_8 : decode cX3_remember 8 = .ok (.aaload, 1) := by decide +kernel
theorem dX3_remember_9 : decode cX3_remember 9 = .ok (.aload_n 1, 1) := by decide +kernel
theorem dX3_remember_10 : decode cX3_remember 10 = .ok (.invokevirtual 25, 3) := by decide +kernel
theorem dX3_remember_13 : decode cX3_remember 13 = .ok (.aload_n 0, 1) := by decide +kernel
theorem dX3_remember_14 : decode cX3_remember 14 = .ok (.aload_n 0, 1) := by decide +kernel
theorem dX3_remember_15 : decode cX3_remember 15 = .ok (.getfield 17, 3) := by decide +kernel
theorem dX3_remember_18 : decode cX3_remember 18 = .ok (.bipush 9, 2) := by decide +kernel
theorem dX3_remember_20 : decode cX3_remember 20 = .ok (.if_icmp .ne 7, 3) := by decide +kernel
theorem dX3_remember_23 : decode cX3_remember 23 = .ok (.iconst 0, 1) := by decide +kernel
theorem dX3_remember_24 : decode cX3_remember 24 = .ok (.goto 9, 3) := by decide +kernel
theorem dX3_remember_27 : decode cX3_remember 27 = .ok (.aload_n 0, 1) := by decide +kernel
theorem dX3_remember_28 : decode cX3_remember 28 = .ok (.getfield 17, 3) := by decide +kernel
theorem dX3_remember_31 : decode cX3_remember 31 = .ok (.iconst 1, 1) := by decide +kernel
theorem dX3_remember_32 : decode cX3_remember 32 = .ok (.iadd, 1) := by decide +kernel
theorem dX3_remember_33 : decode cX3_remember 33 = .ok (.putfield 17, 3) := by decide +kernel
theorem dX3_remember_36 : decode cX3_remember 36 = .ok (.aload_n 0, 1) := by decide +kernel
theorem dX3_remember_37 : decode cX3_remember 37 = .ok (.aload_n 0, 1) := by decide +kernel
theorem dX3_remember_38 : decode cX3_remember 38 = .ok (.getfield 21, 3) := by decide +kernel
theorem dX3_remember_41 : decode cX3_remember 41 = .ok (.iconst 1, 1) := by decide +kernel
theorem dX3_remember_42 : decode cX3_remember 42 = .ok (.iadd, 1) := by decide +kernel
theorem dX3_remember_43 : decode cX3_remember 43 = .ok (.bipush 10, 2) := by decide +kernel
theorem dX3_remember_45 : decode cX3_remember 45 = .ok (.invokestatic 29, 3) := by decide +kernel
theorem dX3_remember_48 : decode cX3_remember 48 = .ok (.putfield 21, 3) := by decide +kernel
theorem dX3_remember_51 : decode cX3_remember 51 = .ok (.return_, 1) := by decide +kernel
set_option maxRecDepth 20000 in
theorem ggX3_recall_X2_copyFrom : GoodIn wsX3_recall wsX2_copyFrom := goodIn_r _ [8, 9, 10, 11, 12, 13, 14, 15, 16, 17, 18, 19, 23, 24, 25, 26, 27, 28, 29] (by decide +kernel) (by decide +kernel)
set_option maxRecDepth 20000 in
theorem gX3_recall_X2_copyFrom : GoodIn wsX3_recall (wsV RX3 25 RX2 yX2_copyFrom wsX2_copyFrom) := goodIn_app (goodIn_of _ (by decide +kernel)) ggX3_recall_X2_copyFrom
theorem dX3_recall_0 : decode cX3_recall 0 = .ok (.aload_n 0, 1) := by decide +kernel
theorem dX3_recall_1 : decode cX3_recall 1 = .ok (.getfield 21, 3) := by decide +kernel
theorem dX3_recall_4 : decode cX3_recall 4 = .ok (.ifCond .ne 4, 3) := by decide +kernel
theorem dX3_recall_7 : decode cX3_recall 7 = .ok (.return_, 1) := by decide +kernel
theorem dX3_recall_8 : decode cX3_recall 8 = .ok (.aload_n 0, 1) := by decide +kernel
theorem dX3_recall_9 : decode cX3_recall 9 = .ok (.aload_n 0, 1) := by decide +kernel
theorem dX3_recall_10 : decode cX3_recall 10 = .ok (.getfield 17, 3) := by decide +kernel
theorem dX3_recall_13 : decode cX3_recall 13 = .ok (.ifCond .ne 8, 3) := by decide +kernel
theorem dX3_recall_16 : decode cX3_recall 16 = .ok (.bipush 9, 2) := by decide +kernel
theorem dX3_recall_18 : decode cX3_recall 18 = .ok (.goto 9, 3) := by decide +kernel
theorem dX3_recall_21 : decode cX3_recall 21 = .ok (.aload_n 0, 1) := by decide +kernel
theorem dX3_recall_22 : decode cX3_recall 22 = .ok (.getfield 17, 3) := by decide +kernel
theorem dX3_recall_25 : decode cX3_recall 25 = .ok (.iconst 1, 1) := by decide +kernel
theorem dX3_recall_26 : decode cX3_recall 26 = .ok (.isub, 1) := by decide +kernel
theorem dX3_recall_27 : decode cX3_recall 27 = .ok (.putfield 17, 3) := by decide +kernel
theorem dX3_recall_30 : decode cX3_recall 30 = .ok (.aload_n 0, 1) := by decide +kernel
theorem dX3_recall_31 : decode cX3_recall 31 = .ok (.dup, 1) := by decide +kernel
theorem dX3_recall_32 : decode cX3_recall 32 = .ok (.getfield 21, 3) := by decide +kernel
theorem dX3_recall_35 : decode cX3_recall 35 = .ok (.iconst 1, 1) := by decide +kernel
theorem dX3_recall_36 : decode cX3_recall 36 = .ok (.isub, 1) := by decide +kernel
theorem dX3_recall_37 : decode cX3_recall 37 = .ok (.putfield 21, 3) := by decide +kernel
theorem dX3_recall_40 : decode cX3_recall 40 = .ok (.aload_n 1, 1) := by decide +kernel
theorem dX3_recall_41 : decode cX3_recall 41 = .ok (.aload_n 0, 1) := by decide +kernel
theorem dX3_recall_42 : decode cX3_recall 42 = .ok (.getfield 11, 3) := by decide +kernel
theorem dX3_recall_45 : decode cX3_recall 45 = .ok (.aload_n 0, 1) := by decide +kernel
theorem dX3_recall_46 : decode cX3_recall 46 = .ok (.getfield 17, 3) := by decide +kernel
theorem dX3_recall_49 : decode cX3_recall 49 = .ok (.aaload, 1) := by decide +kernel
theorem dX3_recall_50 : decode cX3_recall 50 = .ok (.invokevirtual 25, 3) := by decide +kernel
theorem dX3_recall_53 : decode cX3_recall 53 = .ok (.return_, 1) := by decide +kernel
theorem dX3_lose_0 : decode cX3_lose 0 = .ok (.aload_n 0, 1) := by decide +kernel
theorem dX3_lose_1 : decode cX3_lose 1 = .ok (.iconst 0, 1) := by decide +kernel
theorem dX3_lose_2 : decode cX3_lose 2 = .ok (.putfield 21, 3) := by decide +kernel
theorem dX3_lose_5 : decode cX3_lose 5 = .ok (.return_, 1) := by decide +kernel
theorem dX4_init_0 : decode cX4_init 0 = .ok (.aload_n 0, 1) := by decide +kernel
theorem dX4_init_1 : decode cX4_init 1 = .ok (.invokespecial 3, 3) := by decide +kernel
theorem dX4_init_4 : decode cX4_init 4 = .ok (.aload_n 0, 1) := by decide +kernel
theorem dX4_init_5 : decode cX4_init 5 = .ok (.aload_n 1, 1) := by decide +kernel
theorem dX4_init_6 : decode cX4_init 6 = .ok (.putfield 9, 3) := by decide +kernel
theorem dX4_init_9 : decode cX4_init 9 = .ok (.return_, 1) := by decide +kernel
theorem dX4_ordersOf_0 : decode cX4_ordersOf 0 = .ok (.iload_n 0, 1) := by decide +kernel
theorem dX4_ordersOf_1 : decode cX4_ordersOf 1 = .ok (.ifCond .lt 11, 3) := by decide +kernel
theorem dX4_ordersOf_4 : decode cX4_ordersOf 4 = .ok (.iload_n 0, 1) := by decide +kernel
theorem dX4_ordersOf_5 : decode cX4_ordersOf 5 = .ok (.getstatic 15, 3) := by decide +kernel
theorem dX4_ordersOf_8 : decode cX4_ordersOf 8 = .ok (.arraylength, 1) := by decide +kernel
theorem dX4_ordersOf_9 : decode cX4_ordersOf 9 = .ok (.if_icmp .lt 7, 3) := by decide +kernel
theorem dX4_ordersOf_12 : decode cX4_ordersOf 12 = .ok (.iconst 0, 1) := by decide +kernel
theorem dX4_ordersOf_13 : decode cX4_ordersOf 13 = .ok (.goto 8, 3) := by decide +kernel
theorem dX4_ordersOf_16 : decode cX4_ordersOf 16 = .ok (.getstatic 15, 3) := by decide +kernel
theorem dX4_ordersOf_19 : decode cX4_ordersOf 19 = .ok (.iload_n 0, 1) := by decide +kernel
theorem dX4_ordersOf_20 : decode cX4_ordersOf 20 = .ok (.iaload, 1) := by decide +kernel
theorem dX4_ordersOf_21 : decode cX4_ordersOf 21 = .ok (.ireturn, 1) := by decide +kernel
set_option maxRecDepth 20000 in
theorem ggX4_carries_X6_votesOf : GoodIn wsX4_carries wsX6_votesOf := goodIn_r _ [6, 7, 8, 9, 10, 11, 12, 14, 15, 16, 17, 18, 19, 20, 21, 22] (by decide +kernel) (by decide +kernel)
set_option maxRecDepth 20000 in
theorem gX4_carries_X6_votesOf : GoodIn wsX4_carries (wsV RX4 19 RX6 yX6_votesOf wsX6_votesOf) := goodIn_app (goodIn_of _ (by decide +kernel)) ggX4_carries_X6_votesOf
theorem dX4_carries_0 : decode cX4_carries 0 = .ok (.iconst 2, 1) := by decide +kernel
theorem dX4_carries_1 : decode cX4_carries 1 = .ok (.aload_n 0, 1) := by decide +kernel
theorem dX4_carries_2 : decode cX4_carries 2 = .ok (.getfield 9, 3) := by decide +kernel
theorem dX4_carries_5 : decode cX4_carries 5 = .ok (.iload_n 1, 1) := by decide +kernel
theorem dX4_carries_6 : decode cX4_carries 6 = .ok (.invokevirtual 19, 3) := by decide +kernel
theorem dX4_carries_9 : decode cX4_carries 9 = .ok (.imul, 1) := by decide +kernel
theorem dX4_carries_10 : decode cX4_carries 10 = .ok (.aload_n 0, 1) := by decide +kernel
theorem dX4_carries_11 : decode cX4_carries 11 = .ok (.getfield 9, 3) := by decide +kernel
theorem dX4_carries_14 : decode cX4_carries 14 = .ok (.iload_n 2, 1) := by decide +kernel
theorem dX4_carries_15 : decode cX4_carries 15 = .ok (.invokevirtual 19, 3) := by decide +kernel
theorem dX4_carries_18 : decode cX4_carries 18 = .ok (.if_icmp .le 7, 3) := by decide +kernel
theorem dX4_carries_21 : decode cX4_carries 21 = .ok (.iconst 1, 1) := by decide +kernel
theorem dX4_carries_22 : decode cX4_carries 22 = .ok (.goto 4, 3) := by decide +kernel
theorem dX4_carries_25 : decode cX4_carries 25 = .ok (.iconst 0, 1) := by decide +kernel
theorem dX4_carries_26 : decode cX4_carries 26 = .ok (.ireturn, 1) := by decide +kernel
set_option maxRecDepth 20000 in
theorem ggX4_orders_X6_voices : GoodIn wsX4_orders wsX6_voices := goodIn_r _ [6, 7, 8, 9, 10, 11, 5, 12, 13, 14, 15, 16, 17, 18, 19, 20, 21, 22, 23, 24, 25, 26, 27, 28, 29, 43, 44, 45, 46, 47, 48, 49, 50, 51, 52, 53, 54, 55, 56, 57, 58] (by decide +kernel) (by decide +kernel)
set_option maxRecDepth 20000 in
theorem gX4_orders_X6_voices : GoodIn wsX4_orders (wsV RX4 25 RX6 yX6_voices wsX6_voices) := goodIn_app (goodIn_of _ (by decide +kernel)) ggX4_orders_X6_voices
set_option maxRecDepth 20000 in
theorem ggX4_orders_J6_bitCount_0f7a4 : GoodIn wsX4_orders wsJ6_bitCount_0f7a4 := goodIn_r _ [33, 34, 35, 36] (by decide +kernel) (by decide +kernel)
set_option maxRecDepth 20000 in
theorem gX4_orders_J6_bitCount_0f7a4 : GoodIn wsX4_orders (va_wsS RX4 29 yJ6_bitCount_0f7a4 wsJ6_bitCount_0f7a4) := goodIn_app (goodIn_of _ (by decide +kernel)) ggX4_orders_J6_bitCount_0f7a4
set_option maxRecDepth 20000 in
theorem ggX4_orders_X4_ordersOf : GoodIn wsX4_orders wsX4_ordersOf := goodIn_r _ [40, 41] (by decide +kernel) (by decide +kernel)
set_option maxRecDepth 20000 in
theorem gX4_orders_X4_ordersOf : GoodIn wsX4_orders (va_wsS RX4 34 yX4_ordersOf wsX4_ordersOf) := goodIn_app (goodIn_of _ (by decide +kernel)) ggX4_orders_X4_ordersOf
theorem dX4_orders_0 : decode cX4_orders 0 = .ok (.aload_n 0, 1) := by decide +kernel
theorem dX4_orders_1 : decode cX4_orders 1 = .ok (.getfield 9, 3) := by decide +kernel
theorem dX4_orders_4 : decode cX4_orders 4 = .ok (.invokevirtual 25, 3) := by decide +kernel
theorem dX4_orders_7 : decode cX4_orders 7 = .ok (.invokestatic 29, 3) := by decide +kernel
theorem dX4_orders_10 : decode cX4_orders 10 = .ok (.invokestatic 34, 3) := by decide +kernel
theorem dX4_orders_13 : decode cX4_orders 13 = .ok (.ireturn, 1) := by decide +kernel
set_option maxRecDepth 20000 in
theorem ggX4_ordersDecided_X7_isWithin : GoodIn wsX4_ordersDecided wsX7_isWithin := goodIn_r _ [3] (by decide +kernel) (by decide +kernel)
set_option maxRecDepth 20000 in
theorem gX4_ordersDecided_X7_isWithin_n37 : GoodIn wsX4_ordersDecided (wsX7_isWithin) := ggX4_ordersDecided_X7_isWithin
set_option maxRecDepth 20000 in
theorem ggX4_ordersDecided_X4_carries : GoodIn wsX4_ordersDecided wsX4_carries := goodIn_r _ [8, 9, 10, 11, 12, 13, 14, 15, 16, 17, 18, 2, 19, 31, 32, 33, 34, 35, 36, 37, 38, 39, 40] (by decide +kernel) (by decide +kernel)
set_option maxRecDepth 20000 in
theorem gX4_ordersDecided_X4_carries : GoodIn wsX4_ordersDecided (wsV RX4 41 RX4 yX4_carries wsX4_carries) := goodIn_app (goodIn_of _ (by decide +kernel)) ggX4_ordersDecided_X4_carries
set_option maxRecDepth 20000 in
theorem ggX4_ordersDecided_J6_bitCount_0f7a4 : GoodIn wsX4_ordersDecided wsJ6_bitCount_0f7a4 := goodIn_r _ [23, 24, 25, 26] (by decide +kernel) (by decide +kernel)
set_option maxRecDepth 20000 in
theorem gX4_ordersDecided_J6_bitCount_0f7a4 : GoodIn wsX4_ordersDecided (va_wsS RX4 29 yJ6_bitCount_0f7a4 wsJ6_bitCount_0f7a4) := goodIn_app (goodIn_of _ (by decide +kernel)) ggX4_ordersDecided_J6_bitCount_0f7a4
set_option maxRecDepth 20000 in
theorem ggX4_ordersDecided_X4_ordersOf : GoodIn wsX4_ordersDecided wsX4_ordersOf := goodIn_r _ [29, 30] (by decide +kernel) (by decide +kernel)
set_option maxRecDepth 20000 in
theorem gX4_ordersDecided_X4_ordersOf : GoodIn wsX4_ordersDecided (va_wsS RX4 34 yX4_ordersOf wsX4_ordersOf) := goodIn_app (goodIn_of _ (by decide +kernel)) ggX4_ordersDecided_X4_ordersOf
theorem dX4_ordersDecided_0 : decode cX4_ordersDecided 0 = .ok (.iconst 1, 1) := by decide +kernel
theorem dX4_ordersDecided_1 : decode cX4_ordersDecided 1 = .ok (.iload_n 1, 1) := by decide +kernel
theorem dX4_ordersDecided_2 : decode cX4_ordersDecided 2 = .ok (.ishl, 1) := by decide +kernel
theorem dX4_ordersDecided_3 : decode cX4_ordersDecided 3 = .ok (.istore_n 3, 1) := by decide +kernel
theorem dX4_ordersDecided_4 : decode cX4_ordersDecided 4 = .ok (.iload_n 2, 1) := by decide +kernel
theorem dX4_ordersDecided_5 : decode cX4_ordersDecided 5 = .ok (.iload_n 3, 1) := by decide +kernel
theorem dX4_ordersDecided_6 : decode cX4_ordersDecided 6 = .ok (.iconst (-1), 1) := by decide +kernel
theorem dX4_ordersDecided_7 : decode cX4_ordersDecided 7 = .ok (.ixor, 1) := by decide +kernel
theorem dX4_ordersDecided_8 : decode cX4_ordersDecided 8 = .ok (.iand, 1) := by decide +kernel
theorem dX4_ordersDecided_9 : decode cX4_ordersDecided 9 = .ok (.istore 4, 2) := by decide +kernel
theorem dX4_ordersDecided_11 : decode cX4_ordersDecided 11 = .ok (.iload 4, 2) := by decide +kernel
theorem dX4_ordersDecided_13 : decode cX4_ordersDecided 13 = .ok (.iload_n 2, 1) := by decide +kernel
theorem dX4_ordersDecided_14 : decode cX4_ordersDecided 14 = .ok (.if_icmp .ne 5, 3) := by decide +kernel
theorem dX4_ordersDecided_17 : decode cX4_ordersDecided 17 = .ok (.iconst 0, 1) := by decide +kernel
theorem dX4_ordersDecided_18 : decode cX4_ordersDecided 18 = .ok (.ireturn, 1) := by decide +kernel
theorem dX4_ordersDecided_19 : decode cX4_ordersDecided 19 = .ok (.iconst 0, 1) := by decide +kernel
theorem dX4_ordersDecided_20 : decode cX4_ordersDecided 20 = .ok (.istore 5, 2) := by decide +kernel
theorem dX4_ordersDecided_22 : decode cX4_ordersDecided 22 = .ok (.iconst 0, 1) := by decide +kernel
theorem dX4_ordersDecided_23 : decode cX4_ordersDecided 23 = .ok (.istore 6, 2) := by decide +kernel
theorem dX4_ordersDecided_25 : decode cX4_ordersDecided 25 = .ok (.iload 6, 2) := by decide +kernel
theorem dX4_ordersDecided_27 : decode cX4_ordersDecided 27 = .ok (.sipush 128, 3) := by decide +kernel
theorem dX4_ordersDecided_30 : decode cX4_ordersDecided 30 = .ok (.if_icmp .ge 68, 3) := by decide +kernel
theorem dX4_ordersDecided_33 : decode cX4_ordersDecided 33 = .ok (.iload 6, 2) := by decide +kernel
theorem dX4_ordersDecided_35 : decode cX4_ordersDecided 35 = .ok (.iload 4, 2) := by decide +kernel
theorem dX4_ordersDecided_37 : decode cX4_ordersDecided 37 = .ok (.invokestatic 37, 3) := by decide +kernel
theorem dX4_ordersDecided_40 : decode cX4_ordersDecided 40 = .ok (.ifCond .eq 52, 3) := by decide +kernel
theorem dX4_ordersDecided_43 : decode cX4_ordersDecided 43 = .ok (.aload_n 0, 1) := by decide +kernel
theorem dX4_ordersDecided_44 : decode cX4_ordersDecided 44 = .ok (.iload 6, 2) := by decide +kernel
theorem dX4_ordersDecided_46 : decode cX4_ordersDecided 46 = .ok (.iload_n 2, 1) := by decide +kernel
theorem dX4_ordersDecided_47 : decode cX4_ordersDecided 47 = .ok (.invokevirtual 41, 3) := by decide +kernel
theorem dX4_ordersDecided_50 : decode cX4_ordersDecided 50 = .ok (.ifCond .ne 42, 3) := by decide +kernel
theorem dX4_ordersDecided_53 : decode cX4_ordersDecided 53 = .ok (.aload_n 0, 1) := by decide +kernel
theorem dX4_ordersDecided_54 : decode cX4_ordersDecided 54 = .ok (.iload 6, 2) := by decide +kernel
theorem dX4_ordersDecided_56 : decode cX4_ordersDecided 56 = .ok (.iload_n 3, 1) := by decide +kernel
theorem dX4_ordersDecided_57 : decode cX4_ordersDecided 57 = .ok (.ior, 1) := by decide +kernel
theorem dX4_ordersDecided_58 : decode cX4_ordersDecided 58 = .ok (.iload_n 2, 1) := by decide +kernel
theorem dX4_ordersDecided_59 : decode cX4_ordersDecided 59 = .ok (.invokevirtual 41, 3) := by decide +kernel
theorem dX4_ordersDecided_62 : decode cX4_ordersDecided 62 = .ok (.ifCond .eq 30, 3) := by decide +kernel
theorem dX4_ordersDecided_65 : decode cX4_ordersDecided 65 = .ok (.iload 5, 2) := by decide +kernel
theorem dX4_ordersDecided_67 : decode cX4_ordersDecided 67 = .ok (.iload 6, 2) := by decide +kernel
theorem dX4_ordersDecided_69 : decode cX4_ordersDecided 69 = .ok (.invokestatic 29, 3) := by decide +kernel
theorem dX4_ordersDecided_72 : decode cX4_ordersDecided 72 = .ok (.invokestatic 34, 3) := by decide +kernel
theorem dX4_ordersDecided_75 : decode cX4_ordersDecided 75 = .ok (.iload 4, 2) := by decide +kernel
theorem dX4_ordersDecided_77 : decode cX4_ordersDecided 77 = .ok (.iload 6, 2) := by decide +kernel
theorem dX4_ordersDecided_79 : decode cX4_ordersDecided 79 = .ok (.iconst (-1), 1) := by decide +kernel
theorem dX4_ordersDecided_80 : decode cX4_ordersDecided 80 = .ok (.ixor, 1) := by decide +kernel
theorem dX4_ordersDecided_81 : decode cX4_ordersDecided 81 = .ok (.iand, 1) := by decide +kernel
theorem dX4_ordersDecided_82 : decode cX4_ordersDecided 82 = .ok (.invokestatic 29, 3) := by decide +kernel
theorem dX4_ordersDecided_85 : decode cX4_ordersDecided 85 = .ok (.invokestatic 34, 3) := by decide +kernel
theorem dX4_ordersDecided_88 : decode cX4_ordersDecided 88 = .ok (.imul, 1) := by decide +kernel
theorem dX4_ordersDecided_89 : decode cX4_ordersDecided 89 = .ok (.iadd, 1) := by decide +kernel
theorem dX4_ordersDecided_90 : decode cX4_ordersDecided 90 = .ok (.istore 5, 2) := by decide +kernel
theorem dX4_ordersDecided_92 : decode cX4_ordersDecided 92 = .ok (.iinc 6 1, 3) := by decide +kernel
theorem dX4_ordersDecided_95 : decode cX4_ordersDecided 95 = .ok (.goto (-70), 3) := by decide +kernel
theorem dX4_ordersDecided_98 : decode cX4_ordersDecided 98 = .ok (.iload 5, 2) := by decide +kernel
theorem dX4_ordersDecided_100 : decode cX4_ordersDecided 100 = .ok (.ireturn, 1) := by decide +kernel
set_option maxRecDepth 20000 in
theorem ggX4_powerless_X6_voices : GoodIn wsX4_powerless wsX6_voices := goodIn_r _ [6, 7, 8, 9, 10, 11, 5, 12, 13, 14, 15, 16, 17, 18, 19, 20, 21, 22, 23, 24, 25, 26, 27, 28, 29, 58, 59, 60, 61, 62, 63, 64, 65, 66, 67, 68, 69, 70, 71, 72, 73] (by decide +kernel) (by decide +kernel)
set_option maxRecDepth 20000 in
theorem gX4_powerless_X6_voices : GoodIn wsX4_powerless (wsV RX4 25 RX6 yX6_voices wsX6_voices) := goodIn_app (goodIn_of _ (by decide +kernel)) ggX4_powerless_X6_voices
set_option maxRecDepth 20000 in
theorem ggX4_powerless_X7_bit : GoodIn wsX4_powerless wsX7_bit := goodIn_r _ [29] (by decide +kernel) (by decide +kernel)
set_option maxRecDepth 20000 in
theorem gX4_powerless_X7_bit_n44 : GoodIn wsX4_powerless (wsX7_bit) := ggX4_powerless_X7_bit
set_option maxRecDepth 20000 in
theorem ggX4_powerless_X4_ordersDecided : GoodIn wsX4_powerless wsX4_ordersDecided := goodIn_r _ [34, 35, 28, 36, 37, 38, 39, 33, 40, 1, 41, 42, 43, 5, 44, 17, 18, 45, 27, 29, 46, 47, 48, 49, 50, 51, 52, 53, 54, 55, 56, 57, 58, 59, 67, 68, 69, 70, 71, 72, 73] (by decide +kernel) (by decide +kernel)
set_option maxRecDepth 20000 in
theorem gX4_powerless_X4_ordersDecided : GoodIn wsX4_powerless (wsV RX4 48 RX4 yX4_ordersDecided wsX4_ordersDecided) := goodIn_app (goodIn_of _ (by decide +kernel)) ggX4_powerless_X4_ordersDecided
theorem dX4_powerless_0 : decode cX4_powerless 0 = .ok (.aload_n 0, 1) := by decide +kernel
theorem dX4_powerless_1 : decode cX4_powerless 1 = .ok (.getfield 9, 3) := by decide +kernel
theorem dX4_powerless_4 : decode cX4_powerless 4 = .ok (.invokevirtual 25, 3) := by decide +kernel
theorem dX4_powerless_7 : decode cX4_powerless 7 = .ok (.istore_n 1, 1) := by decide +kernel
theorem dX4_powerless_8 : decode cX4_powerless 8 = .ok (.iconst 0, 1) := by decide +kernel
theorem dX4_powerless_9 : decode cX4_powerless 9 = .ok (.istore_n 2, 1) := by decide +kernel
theorem dX4_powerless_10 : decode cX4_powerless 10 = .ok (.iconst 0, 1) := by decide +kernel
theorem dX4_powerless_11 : decode cX4_powerless 11 = .ok (.istore_n 3, 1) := by decide +kernel
theorem dX4_powerless_12 : decode cX4_powerless 12 = .ok (.iload_n 3, 1) := by decide +kernel
theorem dX4_powerless_13 : decode cX4_powerless 13 = .ok (.bipush 7, 2) := by decide +kernel
theorem dX4_powerless_15 : decode cX4_powerless 15 = .ok (.if_icmp .ge 33, 3) := by decide +kernel
theorem dX4_powerless_18 : decode cX4_powerless 18 = .ok (.iload_n 1, 1) := by decide +kernel
theorem dX4_powerless_19 : decode cX4_powerless 19 = .ok (.iload_n 3, 1) := by decide +kernel
theorem dX4_powerless_20 : decode cX4_powerless 20 = .ok (.invokestatic 44, 3) := by decide +kernel
theorem dX4_powerless_23 : decode cX4_powerless 23 = .ok (.iconst 1, 1) := by decide +kernel
theorem dX4_powerless_24 : decode cX4_powerless 24 = .ok (.if_icmp .ne 18, 3) := by decide +kernel
theorem dX4_powerless_27 : decode cX4_powerless 27 = .ok (.aload_n 0, 1) := by decide +kernel
theorem dX4_powerless_28 : decode cX4_powerless 28 = .ok (.iload_n 3, 1) := by decide +kernel
theorem dX4_powerless_29 : decode cX4_powerless 29 = .ok (.iload_n 1, 1) := by decide +kernel
theorem dX4_powerless_30 : decode cX4_powerless 30 = .ok (.invokevirtual 48, 3) := by decide +kernel
theorem dX4_powerless_33 : decode cX4_powerless 33 = .ok (.ifCond .ne 9, 3) := by decide +kernel
theorem dX4_powerless_36 : decode cX4_powerless 36 = .ok (.iload_n 2, 1) := by decide +kernel
theorem dX4_powerless_37 : decode cX4_powerless 37 = .ok (.iconst 1, 1) := by decide +kernel
theorem dX4_powerless_38 : decode cX4_powerless 38 = .ok (.iload_n 3, 1) := by decide +kernel
theorem dX4_powerless_39 : decode cX4_powerless 39 = .ok (.ishl, 1) := by decide +kernel
theorem dX4_powerless_40 : decode cX4_powerless 40 = .ok (.ior, 1) := by decide +kernel
theorem dX4_powerless_41 : decode cX4_powerless 41 = .ok (.istore_n 2, 1) := by decide +kernel
theorem dX4_powerless_42 : decode cX4_powerless 42 = .ok (.iinc 3 1, 3) := by decide +kernel
theorem dX4_powerless_45 : decode cX4_powerless 45 = .ok (.goto (-33), 3) := by decide +kernel
theorem dX4_powerless_48 : decode cX4_powerless 48 = .ok (.iload_n 2, 1) := by decide +kernel
theorem dX4_powerless_49 : decode cX4_powerless 49 = .ok (.ireturn, 1) := by decide +kernel
set_option maxRecDepth 20000 in
theorem ggX4_isLeast_X7_isWithin : GoodIn wsX4_isLeast wsX7_isWithin := goodIn_r _ [3] (by decide +kernel) (by decide +kernel)
set_option maxRecDepth 20000 in
theorem gX4_isLeast_X7_isWithin_n37 : GoodIn wsX4_isLeast (wsX7_isWithin) := ggX4_isLeast_X7_isWithin
set_option maxRecDepth 20000 in
theorem ggX4_isLeast_X4_carries : GoodIn wsX4_isLeast wsX4_carries := goodIn_r _ [8, 9, 10, 11, 12, 13, 14, 15, 16, 17, 18, 2, 19, 20, 21, 22, 23, 24, 25, 26, 27, 28, 29] (by decide +kernel) (by decide +kernel)
set_option maxRecDepth 20000 in
theorem gX4_isLeast_X4_carries : GoodIn wsX4_isLeast (wsV RX4 41 RX4 yX4_carries wsX4_carries) := goodIn_app (goodIn_of _ (by decide +kernel)) ggX4_isLeast_X4_carries
set_option maxRecDepth 20000 in
theorem ggX4_isLeast_X7_bit : GoodIn wsX4_isLeast wsX7_bit := goodIn_r _ [19] (by decide +kernel) (by decide +kernel)
set_option maxRecDepth 20000 in
theorem gX4_isLeast_X7_bit_n44 : GoodIn wsX4_isLeast (wsX7_bit) := ggX4_isLeast_X7_bit
theorem dX4_isLeast_0 : decode cX4_isLeast 0 = .ok (.iload_n 1, 1) := by decide +kernel
theorem dX4_isLeast_1 : decode cX4_isLeast 1 = .ok (.iload_n 2, 1) := by decide +kernel
theorem dX4_isLeast_2 : decode cX4_isLeast 2 = .ok (.invokestatic 37, 3) := by decide +kernel
theorem dX4_isLeast_5 : decode cX4_isLeast 5 = .ok (.ifCond .eq 12, 3) := by decide +kernel
theorem dX4_isLeast_8 : decode cX4_isLeast 8 = .ok (.aload_n 0, 1) := by decide +kernel
theorem dX4_isLeast_9 : decode cX4_isLeast 9 = .ok (.iload_n 1, 1) := by decide +kernel
theorem dX4_isLeast_10 : decode cX4_isLeast 10 = .ok (.iload_n 2, 1) := by decide +kernel
theorem dX4_isLeast_11 : decode cX4_isLeast 11 = .ok (.invokevirtual 41, 3) := by decide +kernel
theorem dX4_isLeast_14 : decode cX4_isLeast 14 = .ok (.ifCond .ne 5, 3) := by decide +kernel
theorem dX4_isLeast_17 : decode cX4_isLeast 17 = .ok (.iconst 0, 1) := by decide +kernel
theorem dX4_isLeast_18 : decode cX4_isLeast 18 = .ok (.ireturn, 1) := by decide +kernel
theorem dX4_isLeast_19 : decode cX4_isLeast 19 = .ok (.iconst 0, 1) := by decide +kernel
theorem dX4_isLeast_20 : decode cX4_isLeast 20 = .ok (.istore_n 3, 1) := by decide +kernel
theorem dX4_isLeast_21 : decode cX4_isLeast 21 = .ok (.iload_n 3, 1) := by decide +kernel
theorem dX4_isLeast_22 : decode cX4_isLeast 22 = .ok (.bipush 7, 2) := by decide +kernel
theorem dX4_isLeast_24 : decode cX4_isLeast 24 = .ok (.if_icmp .ge 35, 3) := by decide +kernel
theorem dX4_isLeast_27 : decode cX4_isLeast 27 = .ok (.iload_n 1, 1) := by decide +kernel
theorem dX4_isLeast_28 : decode cX4_isLeast 28 = .ok (.iload_n 3, 1) := by decide +kernel
theorem dX4_isLeast_29 : decode cX4_isLeast 29 = .ok (.invokestatic 44, 3) := by decide +kernel
theorem dX4_isLeast_32 : decode cX4_isLeast 32 = .ok (.iconst 1, 1) := by decide +kernel
theorem dX4_isLeast_33 : decode cX4_isLeast 33 = .ok (.if_icmp .ne 20, 3) := by decide +kernel
theorem dX4_isLeast_36 : decode cX4_isLeast 36 = .ok (.aload_n 0, 1) := by decide +kernel
theorem dX4_isLeast_37 : decode cX4_isLeast 37 = .ok (.iload_n 1, 1) := by decide +kernel
theorem dX4_isLeast_38 : decode cX4_isLeast 38 = .ok (.iconst 1, 1) := by decide +kernel
theorem dX4_isLeast_39 : decode cX4_isLeast 39 = .ok (.iload_n 3, 1) := by decide +kernel
theorem dX4_isLeast_40 : decode cX4_isLeast 40 = .ok (.ishl, 1) := by decide +kernel
theorem dX4_isLeast_41 : decode cX4_isLeast 41 = .ok (.iconst (-1), 1) := by decide +kernel
theorem dX4_isLeast_42 : decode cX4_isLeast 42 = .ok (.ixor, 1) := by decide +kernel
theorem dX4_isLeast_43 : decode cX4_isLeast 43 = .ok (.iand, 1) := by decide +kernel
theorem dX4_isLeast_44 : decode cX4_isLeast 44 = .ok (.iload_n 2, 1) := by decide +kernel
theorem dX4_isLeast_45 : decode cX4_isLeast 45 = .ok (.invokevirtual 41, 3) := by decide +kernel
theorem dX4_isLeast_48 : decode cX4_isLeast 48 = .ok (.ifCond .eq 5, 3) := by decide +kernel
theorem dX4_isLeast_51 : decode cX4_isLeast 51 = .ok (.iconst 0, 1) := by decide +kernel
theorem dX4_isLeast_52 : decode cX4_isLeast 52 = .ok (.ireturn, 1) := by decide +kernel
theorem dX4_isLeast_53 : decode cX4_isLeast 53 = .ok (.iinc 3 1, 3) := by decide +kernel
theorem dX4_isLeast_56 : decode cX4_isLeast 56 = .ok (.goto (-35), 3) := by decide +kernel
theorem dX4_isLeast_59 : decode cX4_isLeast 59 = .ok (.iconst 1, 1) := by decide +kernel
theorem dX4_isLeast_60 : decode cX4_isLeast 60 = .ok (.ireturn, 1) := by decide +kernel
set_option maxRecDepth 20000 in
theorem ggX4_leastSets_X6_voices : GoodIn wsX4_leastSets wsX6_voices := goodIn_r _ [6, 7, 8, 9, 10, 11, 5, 12, 13, 14, 15, 16, 17, 18, 19, 20, 21, 22, 23, 24, 25, 26, 27, 28, 29, 47, 48, 49, 50, 51, 52, 53, 54, 55, 56, 57, 58, 59, 60, 61, 62] (by decide +kernel) (by decide +kernel)
set_option maxRecDepth 20000 in
theorem gX4_leastSets_X6_voices : GoodIn wsX4_leastSets (wsV RX4 25 RX6 yX6_voices wsX6_voices) := goodIn_app (goodIn_of _ (by decide +kernel)) ggX4_leastSets_X6_voices
set_option maxRecDepth 20000 in
theorem ggX4_leastSets_X4_isLeast : GoodIn wsX4_leastSets wsX4_isLeast := goodIn_r _ [34, 35, 28, 36, 37, 38, 39, 33, 40, 1, 41, 42, 43, 5, 44, 17, 18, 45, 27, 29, 46, 47, 48, 56, 57, 58, 59, 60, 61, 62] (by decide +kernel) (by decide +kernel)
set_option maxRecDepth 20000 in
theorem gX4_leastSets_X4_isLeast : GoodIn wsX4_leastSets (wsV RX4 51 RX4 yX4_isLeast wsX4_isLeast) := goodIn_app (goodIn_of _ (by decide +kernel)) ggX4_leastSets_X4_isLeast
theorem dX4_leastSets_0 : decode cX4_leastSets 0 = .ok (.aload_n 0, 1) := by decide +kernel
theorem dX4_leastSets_1 : decode cX4_leastSets 1 = .ok (.getfield 9, 3) := by decide +kernel
theorem dX4_leastSets_4 : decode cX4_leastSets 4 = .ok (.invokevirtual 25, 3) := by decide +kernel
theorem dX4_leastSets_7 : decode cX4_leastSets 7 = .ok (.istore_n 1, 1) := by decide +kernel
theorem dX4_leastSets_8 : decode cX4_leastSets 8 = .ok (.iconst 0, 1) := by decide +kernel
theorem dX4_leastSets_9 : decode cX4_leastSets 9 = .ok (.istore_n 2, 1) := by decide +kernel
theorem dX4_leastSets_10 : decode cX4_leastSets 10 = .ok (.iconst 0, 1) := by decide +kernel
theorem dX4_leastSets_11 : decode cX4_leastSets 11 = .ok (.istore_n 3, 1) := by decide +kernel
theorem dX4_leastSets_12 : decode cX4_leastSets 12 = .ok (.iload_n 3, 1) := by decide +kernel
theorem dX4_leastSets_13 : decode cX4_leastSets 13 = .ok (.sipush 128, 3) := by decide +kernel
theorem dX4_leastSets_16 : decode cX4_leastSets 16 = .ok (.if_icmp .ge 21, 3) := by decide +kernel
theorem dX4_leastSets_19 : decode cX4_leastSets 19 = .ok (.aload_n 0, 1) := by decide +kernel
theorem dX4_leastSets_20 : decode cX4_leastSets 20 = .ok (.iload_n 3, 1) := by decide +kernel
theorem dX4_leastSets_21 : decode cX4_leastSets 21 = .ok (.iload_n 1, 1) := by decide +kernel
theorem dX4_leastSets_22 : decode cX4_leastSets 22 = .ok (.invokevirtual 51, 3) := by decide +kernel
theorem dX4_leastSets_25 : decode cX4_leastSets 25 = .ok (.ifCond .eq 6, 3) := by decide +kernel
theorem dX4_leastSets_28 : decode cX4_leastSets 28 = .ok (.iinc 2 1, 3) := by decide +kernel
theorem dX4_leastSets_31 : decode cX4_leastSets 31 = .ok (.iinc 3 1, 3) := by decide +kernel
theorem dX4_leastSets_34 : decode cX4_leastSets 34 = .ok (.goto (-22), 3) := by decide +kernel
theorem dX4_leastSets_37 : decode cX4_leastSets 37 = .ok (.iload_n 2, 1) := by decide +kernel
theorem dX4_leastSets_38 : decode cX4_leastSets 38 = .ok (.ireturn, 1) := by decide +kernel
set_option maxRecDepth 20000 in
theorem ggX4_firstLeastSet_X6_voices : GoodIn wsX4_firstLeastSet wsX6_voices := goodIn_r _ [6, 7, 8, 9, 10, 11, 5, 12, 13, 14, 15, 16, 17, 18, 19, 20, 21, 22, 23, 24, 25, 26, 27, 28, 29, 47, 48, 49, 50, 51, 52, 53, 54, 55, 56, 57, 58, 59, 60, 61, 62] (by decide +kernel) (by decide +kernel)
set_option maxRecDepth 20000 in
theorem gX4_firstLeastSet_X6_voices : GoodIn wsX4_firstLeastSet (wsV RX4 25 RX6 yX6_voices wsX6_voices) := goodIn_app (goodIn_of _ (by decide +kernel)) ggX4_firstLeastSet_X6_voices
set_option maxRecDepth 20000 in
theorem ggX4_firstLeastSet_X4_isLeast : GoodIn wsX4_firstLeastSet wsX4_isLeast := goodIn_r _ [34, 35, 28, 36, 37, 38, 39, 33, 40, 1, 41, 42, 43, 5, 44, 17, 18, 45, 27, 29, 46, 47, 48, 56, 57, 58, 59, 60, 61, 62] (by decide +kernel) (by decide +kernel)
set_option maxRecDepth 20000 in
theorem gX4_firstLeastSet_X4_isLeast : GoodIn wsX4_firstLeastSet (wsV RX4 51 RX4 yX4_isLeast wsX4_isLeast) := goodIn_app (goodIn_of _ (by decide +kernel)) ggX4_firstLeastSet_X4_isLeast
theorem dX4_firstLeastSet_0 : decode cX4_firstLeastSet 0 = .ok (.aload_n 0, 1) := by decide +kernel
theorem dX4_firstLeastSet_1 : decode cX4_firstLeastSet 1 = .ok (.getfield 9, 3) := by decide +kernel
theorem dX4_firstLeastSet_4 : decode cX4_firstLeastSet 4 = .ok (.invokevirtual 25, 3) := by decide +kernel
theorem dX4_firstLeastSet_7 : decode cX4_firstLeastSet 7 = .ok (.istore_n 1, 1) := by decide +kernel
theorem dX4_firstLeastSet_8 : decode cX4_firstLeastSet 8 = .ok (.iconst 0, 1) := by decide +kernel
theorem dX4_firstLeastSet_9 : decode cX4_firstLeastSet 9 = .ok (.istore_n 2, 1) := by decide +kernel
theorem dX4_firstLeastSet_10 : decode cX4_firstLeastSet 10 = .ok (.iload_n 2, 1) := by decide +kernel
theorem dX4_firstLeastSet_11 : decode cX4_firstLeastSet 11 = .ok (.sipush 128, 3) := by decide +kernel
theorem dX4_firstLeastSet_14 : decode cX4_firstLeastSet 14 = .ok (.if_icmp .ge 20, 3) := by decide +kernel
theorem dX4_firstLeastSet_17 : decode cX4_firstLeastSet 17 = .ok (.aload_n 0, 1) := by decide +kernel
theorem dX4_firstLeastSet_18 : decode cX4_firstLeastSet 18 = .ok (.iload_n 2, 1) := by decide +kernel
theorem dX4_firstLeastSet_19 : decode cX4_firstLeastSet 19 = .ok (.iload_n 1, 1) := by decide +kernel
theorem dX4_firstLeastSet_20 : decode cX4_firstLeastSet 20 = .ok (.invokevirtual 51, 3) := by decide +kernel
theorem dX4_firstLeastSet_23 : decode cX4_firstLeastSet 23 = .ok (.ifCond .eq 5, 3) := by decide +kernel
theorem dX4_firstLeastSet_26 : decode cX4_firstLeastSet 26 = .ok (.iload_n 2, 1) := by decide +kernel
theorem dX4_firstLeastSet_27 : decode cX4_firstLeastSet 27 = .ok (.ireturn, 1) := by decide +kernel
theorem dX4_firstLeastSet_28 : decode cX4_firstLeastSet 28 = .ok (.iinc 2 1, 3) := by decide +kernel
theorem dX4_firstLeastSet_31 : decode cX4_firstLeastSet 31 = .ok (.goto (-21), 3) := by decide +kernel
theorem dX4_firstLeastSet_34 : decode cX4_firstLeastSet 34 = .ok (.bipush (-9), 2) := by decide +kernel
theorem dX4_firstLeastSet_36 : decode cX4_firstLeastSet 36 = .ok (.ireturn, 1) := by decide +kernel
theorem dX5_init_0 : decode cX5_init 0 = .ok (.aload_n 0, 1) := by decide +kernel
theorem dX5_init_1 : decode cX5_init 1 = .ok (.invokespecial 3, 3) := by decide +kernel
theorem dX5_init_4 : decode cX5_init 4 = .ok (.aload_n 0, 1) := by decide +kernel
theorem dX5_init_5 : decode cX5_init 5 = .ok (.iconst 0, 1) := by decide +kernel
theorem dX5_init_6 : decode cX5_init 6 = .ok (.putfield 9, 3) := by decide +kernel
theorem dX5_init_9 : decode cX5_init 9 = .ok (.aload_n 0, 1) := by decide +kernel
theorem dX5_init_10 : decode cX5_init 10 = .ok (.iconst 0, 1) := by decide +kernel
theorem dX5_init_11 : decode cX5_init 11 = .ok (.putfield 15, 3) := by decide +kernel
theorem dX5_init_14 : decode cX5_init 14 = .ok (.aload_n 0, 1) := by decide +kernel
theorem dX5_init_15 : decode cX5_init 15 = .ok (.iconst (-1), 1) := by decide +kernel
theorem dX5_init_16 : decode cX5_init 16 = .ok (.putfield 18, 3) := by decide +kernel
theorem dX5_init_19 : decode cX5_init 19 = .ok (.aload_n 0, 1) := by decide +kernel
theorem dX5_init_20 : decode cX5_init 20 = .ok (.iconst 0, 1) := by decide +kernel
theorem dX5_init_21 : decode cX5_init 21 = .ok (.putfield 21, 3) := by decide +kernel
theorem dX5_init_24 : decode cX5_init 24 = .ok (.aload_n 0, 1) := by decide +kernel
theorem dX5_init_25 : decode cX5_init 25 = .ok (.iconst 0, 1) := by decide +kernel
theorem dX5_init_26 : decode cX5_init 26 = .ok (.putfield 24, 3) := by decide +kernel
theorem dX5_init_29 : decode cX5_init 29 = .ok (.aload_n 0, 1) := by decide +kernel
theorem dX5_init_30 : decode cX5_init 30 = .ok (.iconst (-1), 1) := by decide +kernel
theorem dX5_init_31 : decode cX5_init 31 = .ok (.putfield 27, 3) := by decide +kernel
theorem dX5_init_34 : decode cX5_init 34 = .ok (.aload_n 0, 1) := by decide +kernel
theorem dX5_init_35 : decode cX5_init 35 = .ok (.iconst 0, 1) := by decide +kernel
theorem dX5_init_36 : decode cX5_init 36 = .ok (.putfield 30, 3) := by decide +kernel
theorem dX5_init_39 : decode cX5_init 39 = .ok (.aload_n 0, 1) := by decide +kernel
theorem dX5_init_40 : decode cX5_init 40 = .ok (.aload_n 1, 1) := by decide +kernel
theorem dX5_init_41 : decode cX5_init 41 = .ok (.putfield 34, 3) := by decide +kernel
theorem dX5_init_44 : decode cX5_init 44 = .ok (.aload_n 0, 1) := by decide +kernel
theorem dX5_init_45 : decode cX5_init 45 = .ok (.aload_n 2, 1) := by decide +kernel
theorem dX5_init_46 : decode cX5_init 46 = .ok (.putfield 38, 3) := by decide +kernel
theorem dX5_init_49 : decode cX5_init 49 = .ok (.return_, 1) := by decide +kernel
set_option maxRecDepth 20000 in
theorem ggX5_readText_X5_begin : GoodIn wsX5_readText wsX5_begin := goodIn_r _ [7, 8, 9, 10, 11, 12, 13, 14, 2, 15, 16, 17, 18, 19, 20, 21, 22, 23, 24, 25, 26, 27, 6, 28, 29, 1, 30, 31, 32, 33, 34, 35, 36, 37, 73, 74, 75, 76, 77, 78, 79, 80, 81, 82, 83, 84, 85, 86, 87, 88] (by decide +kernel) (by decide +kernel)
set_option maxRecDepth 20000 in
theorem gX5_readText_X5_begin : GoodIn wsX5_readText (wsV RX5 42 RX5 yX5_begin wsX5_begin) := goodIn_app (goodIn_of _ (by decide +kernel)) ggX5_readText_X5_begin
set_option maxRecDepth 20000 in
theorem ggX5_readText_X5_readOfficers : GoodIn wsX5_readText wsX5_readOfficers := goodIn_r _ [41, 16, 42, 43, 44, 45, 6, 46, 2, 29, 47, 48, 49, 50, 1, 37, 25, 26, 27, 28, 14, 13, 8, 30, 31, 32, 33, 34, 35, 36, 9, 10, 11, 12, 73, 74, 75, 76, 77, 78, 79, 80, 81, 82, 83, 84, 85, 86, 87, 88] (by decide +kernel) (by decide +kernel)
set_option maxRecDepth 20000 in
theorem gX5_readText_X5_readOfficers : GoodIn wsX5_readText (wsV RX5 46 RX5 yX5_readOfficers wsX5_readOfficers) := goodIn_app (goodIn_of _ (by decide +kernel)) ggX5_readText_X5_readOfficers
set_option maxRecDepth 20000 in
theorem ggX5_readText_X5_readThing : GoodIn wsX5_readText wsX5_readThing := goodIn_r _ [54, 16, 55, 42, 43, 44, 45, 6, 46, 2, 29, 47, 48, 49, 50, 1, 37, 25, 26, 27, 28, 14, 13, 8, 30, 31, 32, 33, 34, 35, 36, 9, 10, 11, 12, 56, 57, 58, 20, 59, 22, 60, 61, 62, 63, 73, 74, 75, 76, 77, 78, 79, 80, 81, 82, 83, 84, 85, 86, 87, 88] (by decide +kernel) (by decide +kernel)
set_option maxRecDepth 20000 in
theorem gX5_readText_X5_readThing : GoodIn wsX5_readText (wsV RX5 49 RX5 yX5_readThing wsX5_readThing) := goodIn_app (goodIn_of _ (by decide +kernel)) ggX5_readText_X5_readThing
set_option maxRecDepth 20000 in
theorem ggX5_readText_X5_readWarmth : GoodIn wsX5_readText wsX5_readWarmth := goodIn_r _ [67, 15, 16, 68, 43, 44, 45, 6, 46, 2, 29, 47, 48, 49, 50, 1, 37, 25, 26, 27, 28, 14, 13, 8, 30, 31, 32, 33, 34, 35, 36, 9, 10, 11, 12, 73, 74, 75, 76, 77, 78, 79, 80, 81, 82, 83, 84, 85, 86, 87, 88] (by decide +kernel) (by decide +kernel)
set_option maxRecDepth 20000 in
theorem gX5_readText_X5_readWarmth : GoodIn wsX5_readText (wsV RX5 52 RX5 yX5_readWarmth wsX5_readWarmth) := goodIn_app (goodIn_of _ (by decide +kernel)) ggX5_readText_X5_readWarmth
set_option maxRecDepth 20000 in
theorem ggX5_readText_X5_markFault : GoodIn wsX5_readText wsX5_markFault := goodIn_r _ [46, 2, 29, 73, 74, 75, 76, 77, 78, 79, 80, 81] (by decide +kernel) (by decide +kernel)
set_option maxRecDepth 20000 in
theorem gX5_readText_X5_markFault : GoodIn wsX5_readText (wsV RX5 55 RX5 yX5_markFault wsX5_markFault) := goodIn_app (goodIn_of _ (by decide +kernel)) ggX5_readText_X5_markFault
set_option maxRecDepth 20000 in
theorem ggX5_readText_X5_readItemEnd : GoodIn wsX5_readText wsX5_readItemEnd := goodIn_r _ [72, 1, 25, 26, 27, 6, 28, 14, 13, 8, 29, 30, 31, 32, 33, 34, 35, 36, 37, 9, 10, 11, 12, 43, 44, 45, 46, 2, 73, 74, 75, 76, 77, 78, 79, 80, 81] (by decide +kernel) (by decide +kernel)
set_option maxRecDepth 20000 in
theorem gX5_readText_X5_readItemEnd : GoodIn wsX5_readText (wsV RX5 58 RX5 yX5_readItemEnd wsX5_readItemEnd) := goodIn_app (goodIn_of _ (by decide +kernel)) ggX5_readText_X5_readItemEnd
set_option maxRecDepth 20000 in
theorem ggX5_readText_X5_nextToken : GoodIn wsX5_readText wsX5_nextToken := goodIn_r _ [28, 14, 13, 8, 29, 1, 30, 31, 6, 32, 33, 34, 35, 36, 37, 9, 10, 11, 12, 73, 74, 75, 76, 77, 78, 79, 80, 81] (by decide +kernel) (by decide +kernel)
set_option maxRecDepth 20000 in
theorem gX5_readText_X5_nextToken : GoodIn wsX5_readText (wsV RX5 61 RX5 yX5_nextToken wsX5_nextToken) := goodIn_app (goodIn_of _ (by decide +kernel)) ggX5_readText_X5_nextToken
theorem dX5_readText_0 : decode cX5_readText 0 = .ok (.aload_n 0, 1) := by decide +kernel
theorem dX5_readText_1 : decode cX5_readText 1 = .ok (.iload_n 1, 1) := by decide +kernel
theorem dX5_readText_2 : decode cX5_readText 2 = .ok (.invokevirtual 42, 3) := by decide +kernel
theorem dX5_readText_5 : decode cX5_readText 5 = .ok (.iconst 0, 1) := by decide +kernel
theorem dX5_readText_6 : decode cX5_readText 6 = .ok (.istore_n 2, 1) := by decide +kernel
theorem dX5_readText_7 : decode cX5_readText 7 = .ok (.aload_n 0, 1) := by decide +kernel
theorem dX5_readText_8 : decode cX5_readText 8 = .ok (.getfield 18, 3) := by decide +kernel
theorem dX5_readText_11 : decode cX5_readText 11 = .ok (.iconst (-1), 1) := by decide +kernel
theorem dX5_readText_12 : decode cX5_readText 12 = .ok (.if_icmp .eq 96, 3) := by decide +kernel
theorem dX5_readText_15 : decode cX5_readText 15 = .ok (.aload_n 0, 1) := by decide +kernel
theorem dX5_readText_16 : decode cX5_readText 16 = .ok (.getfield 27, 3) := by decide +kernel
theorem dX5_readText_19 : decode cX5_readText 19 = .ok (.iconst (-1), 1) := by decide +kernel
theorem dX5_readText_20 : decode cX5_readText 20 = .ok (.if_icmp .ne 88, 3) := by decide +kernel
theorem dX5_readText_23 : decode cX5_readText 23 = .ok (.iload_n 2, 1) := by decide +kernel
theorem dX5_readText_24 : decode cX5_readText 24 = .ok (.sipush 200, 3) := by decide +kernel
theorem dX5_readText_27 : decode cX5_readText 27 = .ok (.if_icmp .gt 81, 3) := by decide +kernel
theorem dX5_readText_30 : decode cX5_readText 30 = .ok (.aload_n 0, 1) := by decide +kernel
theorem dX5_readText_31 : decode cX5_readText 31 = .ok (.getfield 18, 3) := by decide +kernel
theorem dX5_readText_34 : decode cX5_readText 34 = .ok (.lookupswitch 56 #[(111, 34), (116, 42), (119, 49)], 34) := by decide +kernel
theorem dX5_readText_68 : decode cX5_readText 68 = .ok (.aload_n 0, 1) := by decide +kernel
theorem dX5_readText_69 : decode cX5_readText 69 = .ok (.iload_n 2, 1) := by decide +kernel
theorem dX5_readText_70 : decode cX5_readText 70 = .ok (.invokevirtual 46, 3) := by decide +kernel
theorem dX5_readText_73 : decode cX5_readText 73 = .ok (.goto 21, 3) := by decide +kernel
theorem dX5_readText_76 : decode cX5_readText 76 = .ok (.aload_n 0, 1) := by decide +kernel
theorem dX5_readText_77 : decode cX5_readText 77 = .ok (.invokevirtual 49, 3) := by decide +kernel
theorem dX5_readText_80 : decode cX5_readText 80 = .ok (.goto 14, 3) := by decide +kernel
theorem dX5_readText_83 : decode cX5_readText 83 = .ok (.aload_n 0, 1) := by decide +kernel
theorem dX5_readText_84 : decode cX5_readText 84 = .ok (.invokevirtual 52, 3) := by decide +kernel
theorem dX5_readText_87 : decode cX5_readText 87 = .ok (.goto 7, 3) := by decide +kernel
theorem dX5_readText_90 : decode cX5_readText 90 = .ok (.aload_n 0, 1) := by decide +kernel
theorem dX5_readText_91 : decode cX5_readText 91 = .ok (.invokevirtual 55, 3) := by decide +kernel
theorem dX5_readText_94 : decode cX5_readText 94 = .ok (.aload_n 0, 1) := by decide +kernel
theorem dX5_readText_95 : decode cX5_readText 95 = .ok (.invokevirtual 58, 3) := by decide +kernel
theorem dX5_readText_98 : decode cX5_readText 98 = .ok (.iinc 2 1, 3) := by decide +kernel
theorem dX5_readText_101 : decode cX5_readText 101 = .ok (.aload_n 0, 1) := by decide +kernel
theorem dX5_readText_102 : decode cX5_readText 102 = .ok (.invokevirtual 61, 3) := by decide +kernel
theorem dX5_readText_105 : decode cX5_readText 105 = .ok (.goto (-98), 3) := by decide +kernel
theorem dX5_readText_108 : decode cX5_readText 108 = .ok (.aload_n 0, 1) := by decide +kernel
theorem dX5_readText_109 : decode cX5_readText 109 = .ok (.getfield 27, 3) := by decide +kernel
theorem dX5_readText_112 : decode cX5_readText 112 = .ok (.iconst (-1), 1) := by decide +kernel
theorem dX5_readText_113 : decode cX5_readText 113 = .ok (.if_icmp .ne 7, 3) := by decide +kernel
theorem dX5_readText_116 : decode cX5_readText 116 = .ok (.iload_n 2, 1) := by decide +kernel
theorem dX5_readText_117 : decode cX5_readText 117 = .ok (.goto 10, 3) := by decide +kernel
theorem dX5_readText_120 : decode cX5_readText 120 = .ok (.bipush (-10), 2) := by decide +kernel
theorem dX5_readText_122 : decode cX5_readText 122 = .ok (.aload_n 0, 1) := by decide +kernel
theorem dX5_readText_123 : decode cX5_readText 123 = .ok (.getfield 27, 3) := by decide +kernel
theorem dX5_readText_126 : decode cX5_readText 126 = .ok (.isub, 1) := by decide +kernel
theorem dX5_readText_127 : decode cX5_readText 127 = .ok (.ireturn, 1) := by decide +kernel
set_option maxRecDepth 20000 in
theorem ggX5_begin_X0_beginAnew : GoodIn wsX5_begin wsX0_beginAnew := goodIn_r _ [15, 16, 17, 18, 43, 44, 45, 46, 47, 48, 49] (by decide +kernel) (by decide +kernel)
set_option maxRecDepth 20000 in
theorem gX5_begin_X0_beginAnew : GoodIn wsX5_begin (wsV RX5 70 RX0 yX0_beginAnew wsX0_beginAnew) := goodIn_app (goodIn_of _ (by decide +kernel)) ggX5_begin_X0_beginAnew
set_option maxRecDepth 20000 in
theorem ggX5_begin_X5_nextToken : GoodIn wsX5_begin wsX5_nextToken := goodIn_r _ [23, 7, 6, 1, 24, 25, 26, 27, 22, 28, 29, 30, 31, 32, 33, 2, 3, 4, 5, 34, 35, 36, 37, 38, 39, 40, 41, 42] (by decide +kernel) (by decide +kernel)
set_option maxRecDepth 20000 in
theorem gX5_begin_X5_nextToken : GoodIn wsX5_begin (wsV RX5 61 RX5 yX5_nextToken wsX5_nextToken) := goodIn_app (goodIn_of _ (by decide +kernel)) ggX5_begin_X5_nextToken
theorem dX5_begin_0 : decode cX5_begin 0 = .ok (.aload_n 0, 1) := by decide +kernel
theorem dX5_begin_1 : decode cX5_begin 1 = .ok (.iload_n 1, 1) := by decide +kernel
theorem dX5_begin_2 : decode cX5_begin 2 = .ok (.aload_n 0, 1) := by decide +kernel
theorem dX5_begin_3 : decode cX5_begin 3 = .ok (.getfield 34, 3) := by decide +kernel
theorem dX5_begin_6 : decode cX5_begin 6 = .ok (.arraylength, 1) := by decide +kernel
theorem dX5_begin_7 : decode cX5_begin 7 = .ok (.invokestatic 64, 3) := by decide +kernel
theorem dX5_begin_10 : decode cX5_begin 10 = .ok (.putfield 9, 3) := by decide +kernel
theorem dX5_begin_13 : decode cX5_begin 13 = .ok (.aload_n 0, 1) := by decide +kernel
theorem dX5_begin_14 : decode cX5_begin 14 = .ok (.iconst 0, 1) := by decide +kernel
theorem dX5_begin_15 : decode cX5_begin 15 = .ok (.putfield 15, 3) := by decide +kernel
theorem dX5_begin_18 : decode cX5_begin 18 = .ok (.aload_n 0, 1) := by decide +kernel
theorem dX5_begin_19 : decode cX5_begin 19 = .ok (.iconst (-1), 1) := by decide +kernel
theorem dX5_begin_20 : decode cX5_begin 20 = .ok (.putfield 27, 3) := by decide +kernel
theorem dX5_begin_23 : decode cX5_begin 23 = .ok (.aload_n 0, 1) := by decide +kernel
theorem dX5_begin_24 : decode cX5_begin 24 = .ok (.iconst 0, 1) := by decide +kernel
theorem dX5_begin_25 : decode cX5_begin 25 = .ok (.putfield 30, 3) := by decide +kernel
theorem dX5_begin_28 : decode cX5_begin 28 = .ok (.aload_n 0, 1) := by decide +kernel
theorem dX5_begin_29 : decode cX5_begin 29 = .ok (.getfield 38, 3) := by decide +kernel
theorem dX5_begin_32 : decode cX5_begin 32 = .ok (.invokevirtual 70, 3) := by decide +kernel
theorem dX5_begin_35 : decode cX5_begin 35 = .ok (.aload_n 0, 1) := by decide +kernel
theorem dX5_begin_36 : decode cX5_begin 36 = .ok (.invokevirtual 61, 3) := by decide +kernel
theorem dX5_begin_39 : decode cX5_begin 39 = .ok (.return_, 1) := by decide +kernel
set_option maxRecDepth 20000 in
theorem ggX5_readItemEnd_X5_nextToken : GoodIn wsX5_readItemEnd wsX5_nextToken := goodIn_r _ [6, 7, 8, 9, 10, 1, 11, 12, 5, 13, 14, 15, 16, 17, 18, 19, 20, 21, 22, 28, 29, 30, 31, 32, 33, 34, 35, 36] (by decide +kernel) (by decide +kernel)
set_option maxRecDepth 20000 in
theorem gX5_readItemEnd_X5_nextToken : GoodIn wsX5_readItemEnd (wsV RX5 61 RX5 yX5_nextToken wsX5_nextToken) := goodIn_app (goodIn_of _ (by decide +kernel)) ggX5_readItemEnd_X5_nextToken
set_option maxRecDepth 20000 in
theorem ggX5_readItemEnd_X5_markFault : GoodIn wsX5_readItemEnd wsX5_markFault := goodIn_r _ [26, 27, 10, 28, 29, 30, 31, 32, 33, 34, 35, 36] (by decide +kernel) (by decide +kernel)
set_option maxRecDepth 20000 in
theorem gX5_readItemEnd_X5_markFault : GoodIn wsX5_readItemEnd (wsV RX5 55 RX5 yX5_markFault wsX5_markFault) := goodIn_app (goodIn_of _ (by decide +kernel)) ggX5_readItemEnd_X5_markFault
theorem dX5_readItemEnd_0 : decode cX5_readItemEnd 0 = .ok (.aload_n 0, 1) := by decide +kernel
theorem dX5_readItemEnd_1 : decode cX5_readItemEnd 1 = .ok (.invokevirtual 61, 3) := by decide +kernel
theorem dX5_readItemEnd_4 : decode cX5_readItemEnd 4 = .ok (.aload_n 0, 1) := by decide +kernel
theorem dX5_readItemEnd_5 : decode cX5_readItemEnd 5 = .ok (.getfield 18, 3) := by decide +kernel
theorem dX5_readItemEnd_8 : decode cX5_readItemEnd 8 = .ok (.bipush 59, 2) := by decide +kernel
theorem dX5_readItemEnd_10 : decode cX5_readItemEnd 10 = .ok (.if_icmp .eq 7, 3) := by decide +kernel
theorem dX5_readItemEnd_13 : decode cX5_readItemEnd 13 = .ok (.aload_n 0, 1) := by decide +kernel
theorem dX5_readItemEnd_14 : decode cX5_readItemEnd 14 = .ok (.invokevirtual 55, 3) := by decide +kernel
theorem dX5_readItemEnd_17 : decode cX5_readItemEnd 17 = .ok (.return_, 1) := by decide +kernel
set_option maxRecDepth 20000 in
theorem ggX5_readOfficers_X5_markFault : GoodIn wsX5_readOfficers wsX5_markFault := goodIn_r _ [7, 8, 9, 34, 35, 36, 37, 38, 39, 40, 41, 42] (by decide +kernel) (by decide +kernel)
set_option maxRecDepth 20000 in
theorem gX5_readOfficers_X5_markFault : GoodIn wsX5_readOfficers (wsV RX5 55 RX5 yX5_markFault wsX5_markFault) := goodIn_app (goodIn_of _ (by decide +kernel)) ggX5_readOfficers_X5_markFault
set_option maxRecDepth 20000 in
theorem ggX5_readOfficers_X5_readNumber : GoodIn wsX5_readOfficers wsX5_readNumber := goodIn_r _ [13, 14, 15, 16, 17, 18, 6, 19, 20, 21, 22, 9, 23, 24, 25, 26, 27, 28, 29, 30, 31, 32, 33, 3, 4, 5, 7, 8, 34, 35, 36, 37, 38, 39, 40, 41, 42] (by decide +kernel) (by decide +kernel)
set_option maxRecDepth 20000 in
theorem gX5_readOfficers_X5_readNumber : GoodIn wsX5_readOfficers (wsV RX5 75 RX5 yX5_readNumber wsX5_readNumber) := goodIn_app (goodIn_of _ (by decide +kernel)) ggX5_readOfficers_X5_readNumber
theorem dX5_readOfficers_0 : decode cX5_readOfficers 0 = .ok (.iload_n 1, 1) := by decide +kernel
theorem dX5_readOfficers_1 : decode cX5_readOfficers 1 = .ok (.ifCond .le 7, 3) := by decide +kernel
theorem dX5_readOfficers_4 : decode cX5_readOfficers 4 = .ok (.aload_n 0, 1) := by decide +kernel
theorem dX5_readOfficers_5 : decode cX5_readOfficers 5 = .ok (.invokevirtual 55, 3) := by decide +kernel
theorem dX5_readOfficers_8 : decode cX5_readOfficers 8 = .ok (.aload_n 0, 1) := by decide +kernel
theorem dX5_readOfficers_9 : decode cX5_readOfficers 9 = .ok (.getfield 38, 3) := by decide +kernel
theorem dX5_readOfficers_12 : decode cX5_readOfficers 12 = .ok (.aload_n 0, 1) := by decide +kernel
theorem dX5_readOfficers_13 : decode cX5_readOfficers 13 = .ok (.iconst 1, 1) := by decide +kernel
theorem dX5_readOfficers_14 : decode cX5_readOfficers 14 = .ok (.iconst 5, 1) := by decide +kernel
theorem dX5_readOfficers_15 : decode cX5_readOfficers 15 = .ok (.invokevirtual 75, 3) := by decide +kernel
theorem dX5_readOfficers_18 : decode cX5_readOfficers 18 = .ok (.putfield 78, 3) := by decide +kernel
theorem dX5_readOfficers_21 : decode cX5_readOfficers 21 = .ok (.return_, 1) := by decide +kernel
set_option maxRecDepth 20000 in
theorem ggX5_readThing_X5_markFault : GoodIn wsX5_readThing wsX5_markFault := goodIn_r _ [8, 9, 10, 45, 46, 47, 48, 49, 50, 51, 52, 53] (by decide +kernel) (by decide +kernel)
set_option maxRecDepth 20000 in
theorem gX5_readThing_X5_markFault : GoodIn wsX5_readThing (wsV RX5 55 RX5 yX5_markFault wsX5_markFault) := goodIn_app (goodIn_of _ (by decide +kernel)) ggX5_readThing_X5_markFault
set_option maxRecDepth 20000 in
theorem ggX5_readThing_X5_readNumber : GoodIn wsX5_readThing wsX5_readNumber := goodIn_r _ [14, 15, 16, 17, 18, 19, 7, 20, 21, 22, 23, 10, 24, 25, 26, 27, 28, 29, 30, 31, 32, 33, 34, 4, 5, 6, 8, 9, 45, 46, 47, 48, 49, 50, 51, 52, 53] (by decide +kernel) (by decide +kernel)
set_option maxRecDepth 20000 in
theorem gX5_readThing_X5_readNumber : GoodIn wsX5_readThing (wsV RX5 75 RX5 yX5_readNumber wsX5_readNumber) := goodIn_app (goodIn_of _ (by decide +kernel)) ggX5_readThing_X5_readNumber
set_option maxRecDepth 20000 in
theorem ggX5_readThing_X0_addThing : GoodIn wsX5_readThing wsX0_addThing := goodIn_r _ [39, 40, 41, 42, 43, 44, 54, 55, 56, 57, 58, 59, 60] (by decide +kernel) (by decide +kernel)
set_option maxRecDepth 20000 in
theorem gX5_readThing_X0_addThing : GoodIn wsX5_readThing (wsV RX5 84 RX0 yX0_addThing wsX0_addThing) := goodIn_app (goodIn_of _ (by decide +kernel)) ggX5_readThing_X0_addThing
theorem dX5_readThing_0 : decode cX5_readThing 0 = .ok (.aload_n 0, 1) := by decide +kernel
theorem dX5_readThing_1 : decode cX5_readThing 1 = .ok (.getfield 38, 3) := by decide +kernel
theorem dX5_readThing_4 : decode cX5_readThing 4 = .ok (.getfield 81, 3) := by decide +kernel
theorem dX5_readThing_7 : decode cX5_readThing 7 = .ok (.bipush 7, 2) := by decide +kernel
theorem dX5_readThing_9 : decode cX5_readThing 9 = .ok (.if_icmp .lt 7, 3) := by decide +kernel
theorem dX5_readThing_12 : decode cX5_readThing 12 = .ok (.aload_n 0, 1) := by decide +kernel
theorem dX5_readThing_13 : decode cX5_readThing 13 = .ok (.invokevirtual 55, 3) := by decide +kernel
theorem dX5_readThing_16 : decode cX5_readThing 16 = .ok (.aload_n 0, 1) := by decide +kernel
theorem dX5_readThing_17 : decode cX5_readThing 17 = .ok (.iconst 0, 1) := by decide +kernel
theorem dX5_readThing_18 : decode cX5_readThing 18 = .ok (.iconst 3, 1) := by decide +kernel
theorem dX5_readThing_19 : decode cX5_readThing 19 = .ok (.invokevirtual 75, 3) := by decide +kernel
theorem dX5_readThing_22 : decode cX5_readThing 22 = .ok (.istore_n 1, 1) := by decide +kernel
theorem dX5_readThing_23 : decode cX5_readThing 23 = .ok (.aload_n 0, 1) := by decide +kernel
theorem dX5_readThing_24 : decode cX5_readThing 24 = .ok (.iconst 1, 1) := by decide +kernel
theorem dX5_readThing_25 : decode cX5_readThing 25 = .ok (.bipush 9, 2) := by decide +kernel
theorem dX5_readThing_27 : decode cX5_readThing 27 = .ok (.invokevirtual 75, 3) := by decide +kernel
theorem dX5_readThing_30 : decode cX5_readThing 30 = .ok (.istore_n 2, 1) := by decide +kernel
theorem dX5_readThing_31 : decode cX5_readThing 31 = .ok (.aload_n 0, 1) := by decide +kernel
theorem dX5_readThing_32 : decode cX5_readThing 32 = .ok (.iconst 0, 1) := by decide +kernel
theorem dX5_readThing_33 : decode cX5_readThing 33 = .ok (.bipush 31, 2) := by decide +kernel
theorem dX5_readThing_35 : decode cX5_readThing 35 = .ok (.invokevirtual 75, 3) := by decide +kernel
theorem dX5_readThing_38 : decode cX5_readThing 38 = .ok (.istore_n 3, 1) := by decide +kernel
theorem dX5_readThing_39 : decode cX5_readThing 39 = .ok (.aload_n 0, 1) := by decide +kernel
theorem dX5_readThing_40 : decode cX5_readThing 40 = .ok (.iconst 0, 1) := by decide +kernel
theorem dX5_readThing_41 : decode cX5_readThing 41 = .ok (.aload_n 0, 1) := by decide +kernel
theorem dX5_readThing_42 : decode cX5_readThing 42 = .ok (.getfield 38, 3) := by decide +kernel
theorem dX5_readThing_45 : decode cX5_readThing 45 = .ok (.getfield 78, 3) := by decide +kernel
theorem dX5_readThing_48 : decode cX5_readThing 48 = .ok (.iconst 1, 1) := by decide +kernel
theorem dX5_readThing_49 : decode cX5_readThing 49 = .ok (.isub, 1) := by decide +kernel
theorem dX5_readThing_50 : decode cX5_readThing 50 = .ok (.invokevirtual 75, 3) := by decide +kernel
theorem dX5_readThing_53 : decode cX5_readThing 53 = .ok (.istore 4, 2) := by decide +kernel
theorem dX5_readThing_55 : decode cX5_readThing 55 = .ok (.aload_n 0, 1) := by decide +kernel
theorem dX5_readThing_56 : decode cX5_readThing 56 = .ok (.getfield 38, 3) := by decide +kernel
theorem dX5_readThing_59 : decode cX5_readThing 59 = .ok (.iload_n 1, 1) := by decide +kernel
theorem dX5_readThing_60 : decode cX5_readThing 60 = .ok (.iload_n 2, 1) := by decide +kernel
theorem dX5_readThing_61 : decode cX5_readThing 61 = .ok (.iload_n 3, 1) := by decide +kernel
theorem dX5_readThing_62 : decode cX5_readThing 62 = .ok (.iload 4, 2) := by decide +kernel
theorem dX5_readThing_64 : decode cX5_readThing 64 = .ok (.invokevirtual 84, 3) := by decide +kernel
theorem dX5_readThing_67 : decode cX5_readThing 67 = .ok (.return_, 1) := by decide +kernel
set_option maxRecDepth 20000 in
theorem ggX5_readWarmth_X5_markFault : GoodIn wsX5_readWarmth wsX5_markFault := goodIn_r _ [8, 9, 10, 35, 36, 37, 38, 39, 40, 41, 42, 43] (by decide +kernel) (by decide +kernel)
set_option maxRecDepth 20000 in
theorem gX5_readWarmth_X5_markFault : GoodIn wsX5_readWarmth (wsV RX5 55 RX5 yX5_markFault wsX5_markFault) := goodIn_app (goodIn_of _ (by decide +kernel)) ggX5_readWarmth_X5_markFault
set_option maxRecDepth 20000 in
theorem ggX5_readWarmth_X5_readNumber : GoodIn wsX5_readWarmth wsX5_readNumber := goodIn_r _ [14, 15, 16, 17, 18, 19, 7, 20, 21, 22, 23, 10, 24, 25, 26, 27, 28, 29, 30, 31, 32, 33, 34, 4, 5, 6, 8, 9, 35, 36, 37, 38, 39, 40, 41, 42, 43] (by decide +kernel) (by decide +kernel)
set_option maxRecDepth 20000 in
theorem gX5_readWarmth_X5_readNumber : GoodIn wsX5_readWarmth (wsV RX5 75 RX5 yX5_readNumber wsX5_readNumber) := goodIn_app (goodIn_of _ (by decide +kernel)) ggX5_readWarmth_X5_readNumber
theorem dX5_readWarmth_0 : decode cX5_readWarmth 0 = .ok (.aload_n 0, 1) := by decide +kernel
theorem dX5_readWarmth_1 : decode cX5_readWarmth 1 = .ok (.getfield 30, 3) := by decide +kernel
theorem dX5_readWarmth_4 : decode cX5_readWarmth 4 = .ok (.ifCond .eq 7, 3) := by decide +kernel
theorem dX5_readWarmth_7 : decode cX5_readWarmth 7 = .ok (.aload_n 0, 1) := by decide +kernel
theorem dX5_readWarmth_8 : decode cX5_readWarmth 8 = .ok (.invokevirtual 55, 3) := by decide +kernel
theorem dX5_readWarmth_11 : decode cX5_readWarmth 11 = .ok (.aload_n 0, 1) := by decide +kernel
theorem dX5_readWarmth_12 : decode cX5_readWarmth 12 = .ok (.iconst 1, 1) := by decide +kernel
theorem dX5_readWarmth_13 : decode cX5_readWarmth 13 = .ok (.putfield 30, 3) := by decide +kernel
theorem dX5_readWarmth_16 : decode cX5_readWarmth 16 = .ok (.aload_n 0, 1) := by decide +kernel
theorem dX5_readWarmth_17 : decode cX5_readWarmth 17 = .ok (.getfield 38, 3) := by decide +kernel
theorem dX5_readWarmth_20 : decode cX5_readWarmth 20 = .ok (.aload_n 0, 1) := by decide +kernel
theorem dX5_readWarmth_21 : decode cX5_readWarmth 21 = .ok (.iconst 0, 1) := by decide +kernel
theorem dX5_readWarmth_22 : decode cX5_readWarmth 22 = .ok (.bipush 9, 2) := by decide +kernel
theorem dX5_readWarmth_24 : decode cX5_readWarmth 24 = .ok (.invokevirtual 75, 3) := by decide +kernel
theorem dX5_readWarmth_27 : decode cX5_readWarmth 27 = .ok (.putfield 88, 3) := by decide +kernel
theorem dX5_readWarmth_30 : decode cX5_readWarmth 30 = .ok (.return_, 1) := by decide +kernel
set_option maxRecDepth 20000 in
theorem ggX5_readNumber_X5_nextToken : GoodIn wsX5_readNumber wsX5_nextToken := goodIn_r _ [7, 8, 9, 10, 11, 1, 12, 13, 6, 14, 15, 16, 17, 18, 2, 19, 20, 21, 22, 28, 29, 30, 31, 32, 33, 34, 35, 36] (by decide +kernel) (by decide +kernel)
set_option maxRecDepth 20000 in
theorem gX5_readNumber_X5_nextToken : GoodIn wsX5_readNumber (wsV RX5 61 RX5 yX5_nextToken wsX5_nextToken) := goodIn_app (goodIn_of _ (by decide +kernel)) ggX5_readNumber_X5_nextToken
set_option maxRecDepth 20000 in
theorem ggX5_readNumber_X5_markFault : GoodIn wsX5_readNumber wsX5_markFault := goodIn_r _ [26, 27, 11, 28, 29, 30, 31, 32, 33, 34, 35, 36] (by decide +kernel) (by decide +kernel)
set_option maxRecDepth 20000 in
theorem gX5_readNumber_X5_markFault : GoodIn wsX5_readNumber (wsV RX5 55 RX5 yX5_markFault wsX5_markFault) := goodIn_app (goodIn_of _ (by decide +kernel)) ggX5_readNumber_X5_markFault
theorem dX5_readNumber_0 : decode cX5_readNumber 0 = .ok (.aload_n 0, 1) := by decide +kernel
theorem dX5_readNumber_1 : decode cX5_readNumber 1 = .ok (.invokevirtual 61, 3) := by decide +kernel
theorem dX5_readNumber_4 : decode cX5_readNumber 4 = .ok (.aload_n 0, 1) := by decide +kernel
theorem dX5_readNumber_5 : decode cX5_readNumber 5 = .ok (.getfield 18, 3) := by decide +kernel
theorem dX5_readNumber_8 : decode cX5_readNumber 8 = .ok (.bipush (-2), 2) := by decide +kernel
theorem dX5_readNumber_10 : decode cX5_readNumber 10 = .ok (.if_icmp .ne 19, 3) := by decide +kernel
theorem dX5_readNumber_13 : decode cX5_readNumber 13 = .ok (.aload_n 0, 1) := by decide +kernel
theorem dX5_readNumber_14 : decode cX5_readNumber 14 = .ok (.getfield 24, 3) := by decide +kernel
theorem dX5_readNumber_17 : decode cX5_readNumber 17 = .ok (.iload_n 1, 1) := by decide +kernel
theorem dX5_readNumber_18 : decode cX5_readNumber 18 = .ok (.if_icmp .lt 11, 3) := by decide +kernel
theorem dX5_readNumber_21 : decode cX5_readNumber 21 = .ok (.aload_n 0, 1) := by decide +kernel
theorem dX5_readNumber_22 : decode cX5_readNumber 22 = .ok (.getfield 24, 3) := by decide +kernel
theorem dX5_readNumber_25 : decode cX5_readNumber 25 = .ok (.iload_n 2, 1) := by decide +kernel
theorem dX5_readNumber_26 : decode cX5_readNumber 26 = .ok (.if_icmp .le 9, 3) := by decide +kernel
theorem dX5_readNumber_29 : decode cX5_readNumber 29 = .ok (.aload_n 0, 1) := by decide +kernel
theorem dX5_readNumber_30 : decode cX5_readNumber 30 = .ok (.invokevirtual 55, 3) := by decide +kernel
theorem dX5_readNumber_33 : decode cX5_readNumber 33 = .ok (.iload_n 1, 1) := by decide +kernel
theorem dX5_readNumber_34 : decode cX5_readNumber 34 = .ok (.ireturn, 1) := by decide +kernel
theorem dX5_readNumber_35 : decode cX5_readNumber 35 = .ok (.aload_n 0, 1) := by decide +kernel
theorem dX5_readNumber_36 : decode cX5_readNumber 36 = .ok (.getfield 24, 3) := by decide +kernel
theorem dX5_readNumber_39 : decode cX5_readNumber 39 = .ok (.ireturn, 1) := by decide +kernel
theorem dX5_markFault_0 : decode cX5_markFault 0 = .ok (.aload_n 0, 1) := by decide +kernel
theorem dX5_markFault_1 : decode cX5_markFault 1 = .ok (.getfield 27, 3) := by decide +kernel
theorem dX5_markFault_4 : decode cX5_markFault 4 = .ok (.iconst (-1), 1) := by decide +kernel
theorem dX5_markFault_5 : decode cX5_markFault 5 = .ok (.if_icmp .ne 11, 3) := by decide +kernel
theorem dX5_markFault_8 : decode cX5_markFault 8 = .ok (.aload_n 0, 1) := by decide +kernel
theorem dX5_markFault_9 : decode cX5_markFault 9 = .ok (.aload_n 0, 1) := by decide +kernel
theorem dX5_markFault_10 : decode cX5_markFault 10 = .ok (.getfield 21, 3) := by decide +kernel
theorem dX5_markFault_13 : decode cX5_markFault 13 = .ok (.putfield 27, 3) := by decide +kernel
theorem dX5_markFault_16 : decode cX5_markFault 16 = .ok (.return_, 1) := by decide +kernel
set_option maxRecDepth 20000 in
theorem ggX5_nextToken_X5_isDigit : GoodIn wsX5_nextToken wsX5_isDigit := goodIn_r _ [9] (by decide +kernel) (by decide +kernel)
set_option maxRecDepth 20000 in
theorem gX5_nextToken_X5_isDigit : GoodIn wsX5_nextToken (va_wsS RX5 91 yX5_isDigit wsX5_isDigit) := goodIn_app (goodIn_of _ (by decide +kernel)) ggX5_nextToken_X5_isDigit
set_option maxRecDepth 20000 in
theorem ggX5_nextToken_X5_takeDigits : GoodIn wsX5_nextToken wsX5_takeDigits := goodIn_r _ [13, 3, 1, 14, 2, 15, 16, 17, 18, 4, 5, 6, 7, 8, 9, 19, 20, 21, 22, 23, 24, 25, 26, 27] (by decide +kernel) (by decide +kernel)
set_option maxRecDepth 20000 in
theorem gX5_nextToken_X5_takeDigits : GoodIn wsX5_nextToken (wsV RX5 95 RX5 yX5_takeDigits wsX5_takeDigits) := goodIn_app (goodIn_of _ (by decide +kernel)) ggX5_nextToken_X5_takeDigits
theorem dX5_nextToken_0 : decode cX5_nextToken 0 = .ok (.aload_n 0, 1) := by decide +kernel
theorem dX5_nextToken_1 : decode cX5_nextToken 1 = .ok (.getfield 15, 3) := by decide +kernel
theorem dX5_nextToken_4 : decode cX5_nextToken 4 = .ok (.aload_n 0, 1) := by decide +kernel
theorem dX5_nextToken_5 : decode cX5_nextToken 5 = .ok (.getfield 9, 3) := by decide +kernel
theorem dX5_nextToken_8 : decode cX5_nextToken 8 = .ok (.if_icmp .ge 30, 3) := by decide +kernel
theorem dX5_nextToken_11 : decode cX5_nextToken 11 = .ok (.aload_n 0, 1) := by decide +kernel
theorem dX5_nextToken_12 : decode cX5_nextToken 12 = .ok (.getfield 34, 3) := by decide +kernel
theorem dX5_nextToken_15 : decode cX5_nextToken 15 = .ok (.aload_n 0, 1) := by decide +kernel
theorem dX5_nextToken_16 : decode cX5_nextToken 16 = .ok (.getfield 15, 3) := by decide +kernel
theorem dX5_nextToken_19 : decode cX5_nextToken 19 = .ok (.caload, 1) := by decide +kernel
theorem dX5_nextToken_20 : decode cX5_nextToken 20 = .ok (.bipush 32, 2) := by decide +kernel
theorem dX5_nextToken_22 : decode cX5_nextToken 22 = .ok (.if_icmp .ne 16, 3) := by decide +kernel
theorem dX5_nextToken_25 : decode cX5_nextToken 25 = .ok (.aload_n 0, 1) := by decide +kernel
theorem dX5_nextToken_26 : decode cX5_nextToken 26 = .ok (.dup, 1) := by decide +kernel
theorem dX5_nextToken_27 : decode cX5_nextToken 27 = .ok (.getfield 15, 3) := by decide +kernel
theorem dX5_nextToken_30 : decode cX5_nextToken 30 = .ok (.iconst 1, 1) := by decide +kernel
theorem dX5_nextToken_31 : decode cX5_nextToken 31 = .ok (.iadd, 1) := by decide +kernel
theorem dX5_nextToken_32 : decode cX5_nextToken 32 = .ok (.putfield 15, 3) := by decide +kernel
theorem dX5_nextToken_35 : decode cX5_nextToken 35 = .ok (.goto (-35), 3) := by decide +kernel
theorem dX5_nextToken_38 : decode cX5_nextToken 38 = .ok (.aload_n 0, 1) := by decide +kernel
theorem dX5_nextToken_39 : decode cX5_nextToken 39 = .ok (.aload_n 0, 1) := by decide +kernel
theorem dX5_nextToken_40 : decode cX5_nextToken 40 = .ok (.getfield 15, 3) := by decide +kernel
theorem dX5_nextToken_43 : decode cX5_nextToken 43 = .ok (.putfield 21, 3) := by decide +kernel
theorem dX5_nextToken_46 : decode cX5_nextToken 46 = .ok (.aload_n 0, 1) := by decide +kernel
theorem dX5_nextToken_47 : decode cX5_nextToken 47 = .ok (.getfield 15, 3) := by decide +kernel
theorem dX5_nextToken_50 : decode cX5_nextToken 50 = .ok (.aload_n 0, 1) := by decide +kernel
theorem dX5_nextToken_51 : decode cX5_nextToken 51 = .ok (.getfield 9, 3) := by decide +kernel
theorem dX5_nextToken_54 : decode cX5_nextToken 54 = .ok (.if_icmp .lt 11, 3) := by decide +kernel
theorem dX5_nextToken_57 : decode cX5_nextToken 57 = .ok (.aload_n 0, 1) := by decide +kernel
theorem dX5_nextToken_58 : decode cX5_nextToken 58 = .ok (.iconst (-1), 1) := by decide +kernel
theorem dX5_nextToken_59 : decode cX5_nextToken 59 = .ok (.putfield 18, 3) := by decide +kernel
theorem dX5_nextToken_62 : decode cX5_nextToken 62 = .ok (.goto 48, 3) := by decide +kernel
theorem dX5_nextToken_65 : decode cX5_nextToken 65 = .ok (.aload_n 0, 1) := by decide +kernel
theorem dX5_nextToken_66 : decode cX5_nextToken 66 = .ok (.getfield 34, 3) := by decide +kernel
theorem dX5_nextToken_69 : decode cX5_nextToken 69 = .ok (.aload_n 0, 1) := by decide +kernel
theorem dX5_nextToken_70 : decode cX5_nextToken 70 = .ok (.getfield 15, 3) := by decide +kernel
theorem dX5_nextToken_73 : decode cX5_nextToken 73 = .ok (.caload, 1) := by decide +kernel
theorem dX5_nextToken_74 : decode cX5_nextToken 74 = .ok (.invokestatic 91, 3) := by decide +kernel
theorem dX5_nextToken_77 : decode cX5_nextToken 77 = .ok (.ifCond .eq 10, 3) := by decide +kernel
theorem dX5_nextToken_80 : decode cX5_nextToken 80 = .ok (.aload_n 0, 1) := by decide +kernel
theorem dX5_nextToken_81 : decode cX5_nextToken 81 = .ok (.invokevirtual 95, 3) := by decide +kernel
theorem dX5_nextToken_84 : decode cX5_nextToken 84 = .ok (.goto 26, 3) := by decide +kernel
theorem dX5_nextToken_87 : decode cX5_nextToken 87 = .ok (.aload_n 0, 1) := by decide +kernel
theorem dX5_nextToken_88 : decode cX5_nextToken 88 = .ok (.aload_n 0, 1) := by decide +kernel
theorem dX5_nextToken_89 : decode cX5_nextToken 89 = .ok (.getfield 34, 3) := by decide +kernel
theorem dX5_nextToken_92 : decode cX5_nextToken 92 = .ok (.aload_n 0, 1) := by decide +kernel
theorem dX5_nextToken_93 : decode cX5_nextToken 93 = .ok (.getfield 15, 3) := by decide +kernel
theorem dX5_nextToken_96 : decode cX5_nextToken 96 = .ok (.caload, 1) := by decide +kernel
theorem dX5_nextToken_97 : decode cX5_nextToken 97 = .ok (.putfield 18, 3) := by decide +kernel
theorem dX5_nextToken_100 : decode cX5_nextToken 100 = .ok (.aload_n 0, 1) := by decide +kernel
theorem dX5_nextToken_101 : decode cX5_nextToken 101 = .ok (.dup, 1) := by decide +kernel
theorem dX5_nextToken_102 : decode cX5_nextToken 102 = .ok (.getfield 15, 3) := by decide +kernel
theorem dX5_nextToken_105 : decode cX5_nextToken 105 = .ok (.iconst 1, 1) := by decide +kernel
theorem dX5_nextToken_106 : decode cX5_nextToken 106 = .ok (.iadd, 1) := by decide +kernel
theorem dX5_nextToken_107 : decode cX5_nextToken 107 = .ok (.putfield 15, 3) := by decide +kernel
theorem dX5_nextToken_110 : decode cX5_nextToken 110 = .ok (.return_, 1) := by decide +kernel
set_option maxRecDepth 20000 in
theorem ggX5_takeDigits_X5_isDigit : GoodIn wsX5_takeDigits wsX5_isDigit := goodIn_r _ [14] (by decide +kernel) (by decide +kernel)
set_option maxRecDepth 20000 in
theorem gX5_takeDigits_X5_isDigit : GoodIn wsX5_takeDigits (va_wsS RX5 91 yX5_isDigit wsX5_isDigit) := goodIn_app (goodIn_of _ (by decide +kernel)) ggX5_takeDigits_X5_isDigit
theorem dX5_takeDigits_0 : decode cX5_takeDigits 0 = .ok (.aload_n 0, 1) := by decide +kernel
theorem dX5_takeDigits_1 : decode cX5_takeDigits 1 = .ok (.getfield 34, 3) := by decide +kernel
theorem dX5_takeDigits_4 : decode cX5_takeDigits 4 = .ok (.aload_n 0, 1) := by decide +kernel
theorem dX5_takeDigits_5 : decode cX5_takeDigits 5 = .ok (.getfield 15, 3) := by decide +kernel
theorem dX5_takeDigits_8 : decode cX5_takeDigits 8 = .ok (.caload, 1) := by decide +kernel
theorem dX5_takeDigits_9 : decode cX5_takeDigits 9 = .ok (.bipush 48, 2) := by decide +kernel
theorem dX5_takeDigits_11 : decode cX5_takeDigits 11 = .ok (.if_icmp .ne 7, 3) := by decide +kernel
theorem dX5_takeDigits_14 : decode cX5_takeDigits 14 = .ok (.iconst 1, 1) := by decide +kernel
theorem dX5_takeDigits_15 : decode cX5_takeDigits 15 = .ok (.goto 4, 3) := by decide +kernel
theorem dX5_takeDigits_18 : decode cX5_takeDigits 18 = .ok (.iconst 0, 1) := by decide +kernel
theorem dX5_takeDigits_19 : decode cX5_takeDigits 19 = .ok (.istore_n 1, 1) := by decide +kernel
theorem dX5_takeDigits_20 : decode cX5_takeDigits 20 = .ok (.aload_n 0, 1) := by decide +kernel
theorem dX5_takeDigits_21 : decode cX5_takeDigits 21 = .ok (.iconst 0, 1) := by decide +kernel
theorem dX5_takeDigits_22 : decode cX5_takeDigits 22 = .ok (.putfield 24, 3) := by decide +kernel
theorem dX5_takeDigits_25 : decode cX5_takeDigits 25 = .ok (.aload_n 0, 1) := by decide +kernel
theorem dX5_takeDigits_26 : decode cX5_takeDigits 26 = .ok (.getfield 15, 3) := by decide +kernel
theorem dX5_takeDigits_29 : decode cX5_takeDigits 29 = .ok (.aload_n 0, 1) := by decide +kernel
theorem dX5_takeDigits_30 : decode cX5_takeDigits 30 = .ok (.getfield 9, 3) := by decide +kernel
theorem dX5_takeDigits_33 : decode cX5_takeDigits 33 = .ok (.if_icmp .ge 60, 3) := by decide +kernel
theorem dX5_takeDigits_36 : decode cX5_takeDigits 36 = .ok (.aload_n 0, 1) := by decide +kernel
theorem dX5_takeDigits_37 : decode cX5_takeDigits 37 = .ok (.getfield 34, 3) := by decide +kernel
theorem dX5_takeDigits_40 : decode cX5_takeDigits 40 = .ok (.aload_n 0, 1) := by decide +kernel
theorem dX5_takeDigits_41 : decode cX5_takeDigits 41 = .ok (.getfield 15, 3) := by decide +kernel
theorem dX5_takeDigits_44 : decode cX5_takeDigits 44 = .ok (.caload, 1) := by decide +kernel
theorem dX5_takeDigits_45 : decode cX5_takeDigits 45 = .ok (.invokestatic 91, 3) := by decide +kernel
theorem dX5_takeDigits_48 : decode cX5_takeDigits 48 = .ok (.ifCond .eq 45, 3) := by decide +kernel
theorem dX5_takeDigits_51 : decode cX5_takeDigits 51 = .ok (.aload_n 0, 1) := by decide +kernel
theorem dX5_takeDigits_52 : decode cX5_takeDigits 52 = .ok (.aload_n 0, 1) := by decide +kernel
theorem dX5_takeDigits_53 : decode cX5_takeDigits 53 = .ok (.getfield 24, 3) := by decide +kernel
theorem dX5_takeDigits_56 : decode cX5_takeDigits 56 = .ok (.bipush 10, 2) := by decide +kernel
theorem dX5_takeDigits_58 : decode cX5_takeDigits 58 = .ok (.imul, 1) := by decide +kernel
theorem dX5_takeDigits_59 : decode cX5_takeDigits 59 = .ok (.aload_n 0, 1) := by decide +kernel
theorem dX5_takeDigits_60 : decode cX5_takeDigits 60 = .ok (.getfield 34, 3) := by decide +kernel
theorem dX5_takeDigits_63 : decode cX5_takeDigits 63 = .ok (.aload_n 0, 1) := by decide +kernel
theorem dX5_takeDigits_64 : decode cX5_takeDigits 64 = .ok (.getfield 15, 3) := by decide +kernel
theorem dX5_takeDigits_67 : decode cX5_takeDigits 67 = .ok (.caload, 1) := by decide +kernel
theorem dX5_takeDigits_68 : decode cX5_takeDigits 68 = .ok (.bipush 48, 2) := by decide +kernel
theorem dX5_takeDigits_70 : decode cX5_takeDigits 70 = .ok (.isub, 1) := by decide +kernel
theorem dX5_takeDigits_71 : decode cX5_takeDigits 71 = .ok (.iadd, 1) := by decide +kernel
theorem dX5_takeDigits_72 : decode cX5_takeDigits 72 = .ok (.bipush 32, 2) := by decide +kernel
theorem dX5_takeDigits_74 : decode cX5_takeDigits 74 = .ok (.invokestatic 64, 3) := by decide +kernel
theorem dX5_takeDigits_77 : decode cX5_takeDigits 77 = .ok (.putfield 24, 3) := by decide +kernel
theorem dX5_takeDigits_80 : decode cX5_takeDigits 80 = .ok (.aload_n 0, 1) := by decide +kernel
theorem dX5_takeDigits_81 : decode cX5_takeDigits 81 = .ok (.dup, 1) := by decide +kernel
theorem dX5_takeDigits_82 : decode cX5_takeDigits 82 = .ok (.getfield 15, 3) := by decide +kernel
theorem dX5_takeDigits_85 : decode cX5_takeDigits 85 = .ok (.iconst 1, 1) := by decide +kernel
theorem dX5_takeDigits_86 : decode cX5_takeDigits 86 = .ok (.iadd, 1) := by decide +kernel
theorem dX5_takeDigits_87 : decode cX5_takeDigits 87 = .ok (.putfield 15, 3) := by decide +kernel
theorem dX5_takeDigits_90 : decode cX5_takeDigits 90 = .ok (.goto (-65), 3) := by decide +kernel
theorem dX5_takeDigits_93 : decode cX5_takeDigits 93 = .ok (.iload_n 1, 1) := by decide +kernel
theorem dX5_takeDigits_94 : decode cX5_takeDigits 94 = .ok (.ifCond .eq 20, 3) := by decide +kernel
theorem dX5_takeDigits_97 : decode cX5_takeDigits 97 = .ok (.aload_n 0, 1) := by decide +kernel
theorem dX5_takeDigits_98 : decode cX5_takeDigits 98 = .ok (.getfield 15, 3) := by decide +kernel
theorem dX5_takeDigits_101 : decode cX5_takeDigits 101 = .ok (.aload_n 0, 1) := by decide +kernel
theorem dX5_takeDigits_102 : decode cX5_takeDigits 102 = .ok (.getfield 21, 3) := by decide +kernel
theorem dX5_takeDigits_105 : decode cX5_takeDigits 105 = .ok (.isub, 1) := by decide +kernel
theorem dX5_takeDigits_106 : decode cX5_takeDigits 106 = .ok (.iconst 1, 1) := by decide +kernel
theorem dX5_takeDigits_107 : decode cX5_takeDigits 107 = .ok (.if_icmp .le 7, 3) := by decide +kernel
theorem dX5_takeDigits_110 : decode cX5_takeDigits 110 = .ok (.iconst 1, 1) := by decide +kernel
theorem dX5_takeDigits_111 : decode cX5_takeDigits 111 = .ok (.goto 4, 3) := by decide +kernel
theorem dX5_takeDigits_114 : decode cX5_takeDigits 114 = .ok (.iconst 0, 1) := by decide +kernel
theorem dX5_takeDigits_115 : decode cX5_takeDigits 115 = .ok (.istore_n 2, 1) := by decide +kernel
theorem dX5_takeDigits_116 : decode cX5_takeDigits 116 = .ok (.aload_n 0, 1) := by decide +kernel
theorem dX5_takeDigits_117 : decode cX5_takeDigits 117 = .ok (.iload_n 2, 1) := by decide +kernel
theorem dX5_takeDigits_118 : decode cX5_takeDigits 118 = .ok (.ifCond .ne 12, 3) := by decide +kernel
theorem dX5_takeDigits_121 : decode cX5_takeDigits 121 = .ok (.aload_n 0, 1) := by decide +kernel
theorem dX5_takeDigits_122 : decode cX5_takeDigits 122 = .ok (.getfield 24, 3) := by decide +kernel
theorem dX5_takeDigits_125 : decode cX5_takeDigits 125 = .ok (.bipush 31, 2) := by decide +kernel
theorem dX5_takeDigits_127 : decode cX5_takeDigits 127 = .ok (.if_icmp .le 8, 3) := by decide +kernel
theorem dX5_takeDigits_130 : decode cX5_takeDigits 130 = .ok (.bipush (-3), 2) := by decide +kernel
theorem dX5_takeDigits_132 : decode cX5_takeDigits 132 = .ok (.goto 5, 3) := by decide +kernel
theorem dX5_takeDigits_135 : decode cX5_takeDigits 135 = .ok (.bipush (-2), 2) := by decide +kernel
theorem dX5_takeDigits_137 : decode cX5_takeDigits 137 = .ok (.putfield 18, 3) := by decide +kernel
theorem dX5_takeDigits_140 : decode cX5_takeDigits 140 = .ok (.return_, 1) := by decide +kernel
theorem dX5_isDigit_0 : decode cX5_isDigit 0 = .ok (.iload_n 0, 1) := by decide +kernel
theorem dX5_isDigit_1 : decode cX5_isDigit 1 = .ok (.bipush 48, 2) := by decide +kernel
theorem dX5_isDigit_3 : decode cX5_isDigit 3 = .ok (.if_icmp .lt 13, 3) := by decide +kernel
theorem dX5_isDigit_6 : decode cX5_isDigit 6 = .ok (.iload_n 0, 1) := by decide +kernel
theorem dX5_isDigit_7 : decode cX5_isDigit 7 = .ok (.bipush 57, 2) := by decide +kernel
theorem dX5_isDigit_9 : decode cX5_isDigit 9 = .ok (.if_icmp .gt 7, 3) := by decide +kernel
theorem dX5_isDigit_12 : decode cX5_isDigit 12 = .ok (.iconst 1, 1) := by decide +kernel
theorem dX5_isDigit_13 : decode cX5_isDigit 13 = .ok (.goto 4, 3) := by decide +kernel
theorem dX5_isDigit_16 : decode cX5_isDigit 16 = .ok (.iconst 0, 1) := by decide +kernel
theorem dX5_isDigit_17 : decode cX5_isDigit 17 = .ok (.ireturn, 1) := by decide +kernel
theorem dX6_init_0 : decode cX6_init 0 = .ok (.aload_n 0, 1) := by decide +kernel
theorem dX6_init_1 : decode cX6_init 1 = .ok (.invokespecial 3, 3) := by decide +kernel
theorem dX6_init_4 : decode cX6_init 4 = .ok (.aload_n 0, 1) := by decide +kernel
theorem dX6_init_5 : decode cX6_init 5 = .ok (.aload_n 1, 1) := by decide +kernel
theorem dX6_init_6 : decode cX6_init 6 = .ok (.putfield 9, 3) := by decide +kernel
theorem dX6_init_9 : decode cX6_init 9 = .ok (.aload_n 0, 1) := by decide +kernel
theorem dX6_init_10 : decode cX6_init 10 = .ok (.aload_n 2, 1) := by decide +kernel
theorem dX6_init_11 : decode cX6_init 11 = .ok (.putfield 15, 3) := by decide +kernel
theorem dX6_init_14 : decode cX6_init 14 = .ok (.return_, 1) := by decide +kernel
theorem dX6_able_0 : decode cX6_able 0 = .ok (.iconst 0, 1) := by decide +kernel
theorem dX6_able_1 : decode cX6_able 1 = .ok (.istore_n 1, 1) := by decide +kernel
theorem dX6_able_2 : decode cX6_able 2 = .ok (.iconst 0, 1) := by decide +kernel
theorem dX6_able_3 : decode cX6_able 3 = .ok (.istore_n 2, 1) := by decide +kernel
theorem dX6_able_4 : decode cX6_able 4 = .ok (.iload_n 2, 1) := by decide +kernel
theorem dX6_able_5 : decode cX6_able 5 = .ok (.aload_n 0, 1) := by decide +kernel
theorem dX6_able_6 : decode cX6_able 6 = .ok (.getfield 9, 3) := by decide +kernel
theorem dX6_able_9 : decode cX6_able 9 = .ok (.getfield 19, 3) := by decide +kernel
theorem dX6_able_12 : decode cX6_able 12 = .ok (.if_icmp .ge 63, 3) := by decide +kernel
theorem dX6_able_15 : decode cX6_able 15 = .ok (.aload_n 0, 1) := by decide +kernel
theorem dX6_able_16 : decode cX6_able 16 = .ok (.getfield 9, 3) := by decide +kernel
theorem dX6_able_19 : decode cX6_able 19 = .ok (.getfield 25, 3) := by decide +kernel
theorem dX6_able_22 : decode cX6_able 22 = .ok (.iload_n 2, 1) := by decide +kernel
theorem dX6_able_23 : decode cX6_able 23 = .ok (.iaload, 1) := by decide +kernel
theorem dX6_able_24 : decode cX6_able 24 = .ok (.iconst 1, 1) := by decide +kernel
theorem dX6_able_25 : decode cX6_able 25 = .ok (.if_icmp .ne 19, 3) := by decide +kernel
theorem dX6_able_28 : decode cX6_able 28 = .ok (.aload_n 0, 1) := by decide +kernel
theorem dX6_able_29 : decode cX6_able 29 = .ok (.getfield 15, 3) := by decide +kernel
theorem dX6_able_32 : decode cX6_able 32 = .ok (.getfield 29, 3) := by decide +kernel
theorem dX6_able_35 : decode cX6_able 35 = .ok (.iload_n 2, 1) := by decide +kernel
theorem dX6_able_36 : decode cX6_able 36 = .ok (.iaload, 1) := by decide +kernel
theorem dX6_able_37 : decode cX6_able 37 = .ok (.ifCond .ne 7, 3) := by decide +kernel
theorem dX6_able_40 : decode cX6_able 40 = .ok (.iconst 1, 1) := by decide +kernel
theorem dX6_able_41 : decode cX6_able 41 = .ok (.goto 4, 3) := by decide +kernel
theorem dX6_able_44 : decode cX6_able 44 = .ok (.iconst 0, 1) := by decide +kernel
theorem dX6_able_45 : decode cX6_able 45 = .ok (.istore_n 3, 1) := by decide +kernel
theorem dX6_able_46 : decode cX6_able 46 = .ok (.aload_n 0, 1) := by decide +kernel
theorem dX6_able_47 : decode cX6_able 47 = .ok (.getfield 9, 3) := by decide +kernel
theorem dX6_able_50 : decode cX6_able 50 = .ok (.getfield 25, 3) := by decide +kernel
theorem dX6_able_53 : decode cX6_able 53 = .ok (.iload_n 2, 1) := by decide +kernel
theorem dX6_able_54 : decode cX6_able 54 = .ok (.iaload, 1) := by decide +kernel
theorem dX6_able_55 : decode cX6_able 55 = .ok (.iconst 3, 1) := by decide +kernel
theorem dX6_able_56 : decode cX6_able 56 = .ok (.if_icmp .eq 13, 3) := by decide +kernel
theorem dX6_able_59 : decode cX6_able 59 = .ok (.iload_n 3, 1) := by decide +kernel
theorem dX6_able_60 : decode cX6_able 60 = .ok (.ifCond .ne 9, 3) := by decide +kernel
theorem dX6_able_63 : decode cX6_able 63 = .ok (.iload_n 1, 1) := by decide +kernel
theorem dX6_able_64 : decode cX6_able 64 = .ok (.iconst 1, 1) := by decide +kernel
theorem dX6_able_65 : decode cX6_able 65 = .ok (.iload_n 2, 1) := by decide +kernel
theorem dX6_able_66 : decode cX6_able 66 = .ok (.ishl, 1) := by decide +kernel
theorem dX6_able_67 : decode cX6_able 67 = .ok (.ior, 1) := by decide +kernel
theorem dX6_able_68 : decode cX6_able 68 = .ok (.istore_n 1, 1) := by decide +kernel
theorem dX6_able_69 : decode cX6_able 69 = .ok (.iinc 2 1, 3) := by decide +kernel
theorem dX6_able_72 : decode cX6_able 72 = .ok (.goto (-68), 3) := by decide +kernel
theorem dX6_able_75 : decode cX6_able 75 = .ok (.iload_n 1, 1) := by decide +kernel
theorem dX6_able_76 : decode cX6_able 76 = .ok (.aload_n 0, 1) := by decide +kernel
theorem dX6_able_77 : decode cX6_able 77 = .ok (.getfield 15, 3) := by decide +kernel
theorem dX6_able_80 : decode cX6_able 80 = .ok (.getfield 34, 3) := by decide +kernel
theorem dX6_able_83 : decode cX6_able 83 = .ok (.iconst (-1), 1) := by decide +kernel
theorem dX6_able_84 : decode cX6_able 84 = .ok (.ixor, 1) := by decide +kernel
theorem dX6_able_85 : decode cX6_able 85 = .ok (.iand, 1) := by decide +kernel
theorem dX6_able_86 : decode cX6_able 86 = .ok (.ireturn, 1) := by decide +kernel
set_option maxRecDepth 20000 in
theorem ggX6_heldBy_X7_bit : GoodIn wsX6_heldBy wsX7_bit := goodIn_r _ [7] (by decide +kernel) (by decide +kernel)
set_option maxRecDepth 20000 in
theorem gX6_heldBy_X7_bit_n40 : GoodIn wsX6_heldBy (wsX7_bit) := ggX6_heldBy_X7_bit
theorem dX6_heldBy_0 : decode cX6_heldBy 0 = .ok (.iconst 0, 1) := by decide +kernel
theorem dX6_heldBy_1 : decode cX6_heldBy 1 = .ok (.istore_n 2, 1) := by decide +kernel
theorem dX6_heldBy_2 : decode cX6_heldBy 2 = .ok (.iconst 0, 1) := by decide +kernel
theorem dX6_heldBy_3 : decode cX6_heldBy 3 = .ok (.istore_n 3, 1) := by decide +kernel
theorem dX6_heldBy_4 : decode cX6_heldBy 4 = .ok (.iload_n 3, 1) := by decide +kernel
theorem dX6_heldBy_5 : decode cX6_heldBy 5 = .ok (.aload_n 0, 1) := by decide +kernel
theorem dX6_heldBy_6 : decode cX6_heldBy 6 = .ok (.getfield 9, 3) := by decide +kernel
theorem dX6_heldBy_9 : decode cX6_heldBy 9 = .ok (.getfield 19, 3) := by decide +kernel
theorem dX6_heldBy_12 : decode cX6_heldBy 12 = .ok (.if_icmp .ge 32, 3) := by decide +kernel
theorem dX6_heldBy_15 : decode cX6_heldBy 15 = .ok (.iload_n 1, 1) := by decide +kernel
theorem dX6_heldBy_16 : decode cX6_heldBy 16 = .ok (.aload_n 0, 1) := by decide +kernel
theorem dX6_heldBy_17 : decode cX6_heldBy 17 = .ok (.getfield 15, 3) := by decide +kernel
theorem dX6_heldBy_20 : decode cX6_heldBy 20 = .ok (.getfield 37, 3) := by decide +kernel
theorem dX6_heldBy_23 : decode cX6_heldBy 23 = .ok (.iload_n 3, 1) := by decide +kernel
theorem dX6_heldBy_24 : decode cX6_heldBy 24 = .ok (.iaload, 1) := by decide +kernel
theorem dX6_heldBy_25 : decode cX6_heldBy 25 = .ok (.invokestatic 40, 3) := by decide +kernel
theorem dX6_heldBy_28 : decode cX6_heldBy 28 = .ok (.iconst 1, 1) := by decide +kernel
theorem dX6_heldBy_29 : decode cX6_heldBy 29 = .ok (.if_icmp .ne 9, 3) := by decide +kernel
theorem dX6_heldBy_32 : decode cX6_heldBy 32 = .ok (.iload_n 2, 1) := by decide +kernel
theorem dX6_heldBy_33 : decode cX6_heldBy 33 = .ok (.iconst 1, 1) := by decide +kernel
theorem dX6_heldBy_34 : decode cX6_heldBy 34 = .ok (.iload_n 3, 1) := by decide +kernel
theorem dX6_heldBy_35 : decode cX6_heldBy 35 = .ok (.ishl, 1) := by decide +kernel
theorem dX6_heldBy_36 : decode cX6_heldBy 36 = .ok (.ior, 1) := by decide +kernel
theorem dX6_heldBy_37 : decode cX6_heldBy 37 = .ok (.istore_n 2, 1) := by decide +kernel
theorem dX6_heldBy_38 : decode cX6_heldBy 38 = .ok (.iinc 3 1, 3) := by decide +kernel
theorem dX6_heldBy_41 : decode cX6_heldBy 41 = .ok (.goto (-37), 3) := by decide +kernel
theorem dX6_heldBy_44 : decode cX6_heldBy 44 = .ok (.iload_n 2, 1) := by decide +kernel
theorem dX6_heldBy_45 : decode cX6_heldBy 45 = .ok (.ireturn, 1) := by decide +kernel
set_option maxRecDepth 20000 in
theorem ggX6_voices_X6_voicesIfSick : GoodIn wsX6_voices wsX6_voicesIfSick := goodIn_r _ [7, 8, 9, 10, 6, 11, 12, 13, 14, 1, 15, 16, 17, 18, 19, 20, 21, 22, 23, 24, 25, 26, 34, 35, 36, 37, 38, 39, 40, 27, 28, 29, 30, 31, 32, 33] (by decide +kernel) (by decide +kernel)
set_option maxRecDepth 20000 in
theorem gX6_voices_X6_voicesIfSick : GoodIn wsX6_voices (wsV RX6 47 RX6 yX6_voicesIfSick wsX6_voicesIfSick) := goodIn_app (goodIn_of _ (by decide +kernel)) ggX6_voices_X6_voicesIfSick
theorem dX6_voices_0 : decode cX6_voices 0 = .ok (.aload_n 0, 1) := by decide +kernel
theorem dX6_voices_1 : decode cX6_voices 1 = .ok (.aload_n 0, 1) := by decide +kernel
theorem dX6_voices_2 : decode cX6_voices 2 = .ok (.getfield 15, 3) := by decide +kernel
theorem dX6_voices_5 : decode cX6_voices 5 = .ok (.getfield 44, 3) := by decide +kernel
theorem dX6_voices_8 : decode cX6_voices 8 = .ok (.invokevirtual 47, 3) := by decide +kernel
theorem dX6_voices_11 : decode cX6_voices 11 = .ok (.ireturn, 1) := by decide +kernel
set_option maxRecDepth 20000 in
theorem ggX6_voicesIfSick_X6_able : GoodIn wsX6_voicesIfSick wsX6_able := goodIn_r _ [5, 6, 7, 8, 9, 10, 11, 20, 21, 22, 23, 24, 25, 26, 27, 28, 29, 30, 31, 32, 33, 34, 35] (by decide +kernel) (by decide +kernel)
set_option maxRecDepth 20000 in
theorem gX6_voicesIfSick_X6_able : GoodIn wsX6_voicesIfSick (wsV RX6 51 RX6 yX6_able wsX6_able) := goodIn_app (goodIn_of _ (by decide +kernel)) ggX6_voicesIfSick_X6_able
set_option maxRecDepth 20000 in
theorem ggX6_voicesIfSick_X6_heldBy : GoodIn wsX6_voicesIfSick wsX6_heldBy := goodIn_r _ [15, 6, 7, 9, 16, 17, 18, 19, 20, 21, 22, 23, 24, 25, 26, 27, 28, 29, 30, 31, 32, 33, 34, 35] (by decide +kernel) (by decide +kernel)
set_option maxRecDepth 20000 in
theorem gX6_voicesIfSick_X6_heldBy : GoodIn wsX6_voicesIfSick (wsV RX6 55 RX6 yX6_heldBy wsX6_heldBy) := goodIn_app (goodIn_of _ (by decide +kernel)) ggX6_voicesIfSick_X6_heldBy
theorem dX6_voicesIfSick_0 : decode cX6_voicesIfSick 0 = .ok (.aload_n 0, 1) := by decide +kernel
theorem dX6_voicesIfSick_1 : decode cX6_voicesIfSick 1 = .ok (.invokevirtual 51, 3) := by decide +kernel
theorem dX6_voicesIfSick_4 : decode cX6_voicesIfSick 4 = .ok (.aload_n 0, 1) := by decide +kernel
theorem dX6_voicesIfSick_5 : decode cX6_voicesIfSick 5 = .ok (.iload_n 1, 1) := by decide +kernel
theorem dX6_voicesIfSick_6 : decode cX6_voicesIfSick 6 = .ok (.invokevirtual 55, 3) := by decide +kernel
theorem dX6_voicesIfSick_9 : decode cX6_voicesIfSick 9 = .ok (.iconst (-1), 1) := by decide +kernel
theorem dX6_voicesIfSick_10 : decode cX6_voicesIfSick 10 = .ok (.ixor, 1) := by decide +kernel
theorem dX6_voicesIfSick_11 : decode cX6_voicesIfSick 11 = .ok (.iand, 1) := by decide +kernel
theorem dX6_voicesIfSick_12 : decode cX6_voicesIfSick 12 = .ok (.ireturn, 1) := by decide +kernel
set_option maxRecDepth 20000 in
theorem ggX6_votesOf_X7_bit : GoodIn wsX6_votesOf wsX7_bit := goodIn_r _ [6] (by decide +kernel) (by decide +kernel)
set_option maxRecDepth 20000 in
theorem gX6_votesOf_X7_bit_n40 : GoodIn wsX6_votesOf (wsX7_bit) := ggX6_votesOf_X7_bit
theorem dX6_votesOf_0 : decode cX6_votesOf 0 = .ok (.iconst 0, 1) := by decide +kernel
theorem dX6_votesOf_1 : decode cX6_votesOf 1 = .ok (.istore_n 2, 1) := by decide +kernel
theorem dX6_votesOf_2 : decode cX6_votesOf 2 = .ok (.iconst 0, 1) := by decide +kernel
theorem dX6_votesOf_3 : decode cX6_votesOf 3 = .ok (.istore_n 3, 1) := by decide +kernel
theorem dX6_votesOf_4 : decode cX6_votesOf 4 = .ok (.iload_n 3, 1) := by decide +kernel
theorem dX6_votesOf_5 : decode cX6_votesOf 5 = .ok (.aload_n 0, 1) := by decide +kernel
theorem dX6_votesOf_6 : decode cX6_votesOf 6 = .ok (.getfield 9, 3) := by decide +kernel
theorem dX6_votesOf_9 : decode cX6_votesOf 9 = .ok (.getfield 19, 3) := by decide +kernel
theorem dX6_votesOf_12 : decode cX6_votesOf 12 = .ok (.if_icmp .ge 30, 3) := by decide +kernel
theorem dX6_votesOf_15 : decode cX6_votesOf 15 = .ok (.iload_n 1, 1) := by decide +kernel
theorem dX6_votesOf_16 : decode cX6_votesOf 16 = .ok (.iload_n 3, 1) := by decide +kernel
theorem dX6_votesOf_17 : decode cX6_votesOf 17 = .ok (.invokestatic 40, 3) := by decide +kernel
theorem dX6_votesOf_20 : decode cX6_votesOf 20 = .ok (.iconst 1, 1) := by decide +kernel
theorem dX6_votesOf_21 : decode cX6_votesOf 21 = .ok (.if_icmp .ne 15, 3) := by decide +kernel
theorem dX6_votesOf_24 : decode cX6_votesOf 24 = .ok (.iload_n 2, 1) := by decide +kernel
theorem dX6_votesOf_25 : decode cX6_votesOf 25 = .ok (.aload_n 0, 1) := by decide +kernel
theorem dX6_votesOf_26 : decode cX6_votesOf 26 = .ok (.getfield 9, 3) := by decide +kernel
theorem dX6_votesOf_29 : decode cX6_votesOf 29 = .ok (.getfield 58, 3) := by decide +kernel
theorem dX6_votesOf_32 : decode cX6_votesOf 32 = .ok (.iload_n 3, 1) := by decide +kernel
theorem dX6_votesOf_33 : decode cX6_votesOf 33 = .ok (.iaload, 1) := by decide +kernel
theorem dX6_votesOf_34 : decode cX6_votesOf 34 = .ok (.iadd, 1) := by decide +kernel
theorem dX6_votesOf_35 : decode cX6_votesOf 35 = .ok (.istore_n 2, 1) := by decide +kernel
theorem dX6_votesOf_36 : decode cX6_votesOf 36 = .ok (.iinc 3 1, 3) := by decide +kernel
theorem dX6_votesOf_39 : decode cX6_votesOf 39 = .ok (.goto (-35), 3) := by decide +kernel
theorem dX6_votesOf_42 : decode cX6_votesOf 42 = .ok (.iload_n 2, 1) := by decide +kernel
theorem dX6_votesOf_43 : decode cX6_votesOf 43 = .ok (.ireturn, 1) := by decide +kernel
set_option maxRecDepth 20000 in
theorem ggX6_yesOf_X7_bit : GoodIn wsX6_yesOf wsX7_bit := goodIn_r _ [8] (by decide +kernel) (by decide +kernel)
set_option maxRecDepth 20000 in
theorem gX6_yesOf_X7_bit_n40 : GoodIn wsX6_yesOf (wsX7_bit) := ggX6_yesOf_X7_bit
theorem dX6_yesOf_0 : decode cX6_yesOf 0 = .ok (.iconst 0, 1) := by decide +kernel
theorem dX6_yesOf_1 : decode cX6_yesOf 1 = .ok (.istore_n 2, 1) := by decide +kernel
theorem dX6_yesOf_2 : decode cX6_yesOf 2 = .ok (.iconst 0, 1) := by decide +kernel
theorem dX6_yesOf_3 : decode cX6_yesOf 3 = .ok (.istore_n 3, 1) := by decide +kernel
theorem dX6_yesOf_4 : decode cX6_yesOf 4 = .ok (.iload_n 3, 1) := by decide +kernel
theorem dX6_yesOf_5 : decode cX6_yesOf 5 = .ok (.aload_n 0, 1) := by decide +kernel
theorem dX6_yesOf_6 : decode cX6_yesOf 6 = .ok (.getfield 9, 3) := by decide +kernel
theorem dX6_yesOf_9 : decode cX6_yesOf 9 = .ok (.getfield 19, 3) := by decide +kernel
theorem dX6_yesOf_12 : decode cX6_yesOf 12 = .ok (.if_icmp .ge 27, 3) := by decide +kernel
theorem dX6_yesOf_15 : decode cX6_yesOf 15 = .ok (.iload_n 2, 1) := by decide +kernel
theorem dX6_yesOf_16 : decode cX6_yesOf 16 = .ok (.aload_n 0, 1) := by decide +kernel
theorem dX6_yesOf_17 : decode cX6_yesOf 17 = .ok (.getfield 9, 3) := by decide +kernel
theorem dX6_yesOf_20 : decode cX6_yesOf 20 = .ok (.getfield 61, 3) := by decide +kernel
theorem dX6_yesOf_23 : decode cX6_yesOf 23 = .ok (.iload_n 3, 1) := by decide +kernel
theorem dX6_yesOf_24 : decode cX6_yesOf 24 = .ok (.iaload, 1) := by decide +kernel
theorem dX6_yesOf_25 : decode cX6_yesOf 25 = .ok (.iload_n 1, 1) := by decide +kernel
theorem dX6_yesOf_26 : decode cX6_yesOf 26 = .ok (.invokestatic 40, 3) := by decide +kernel
theorem dX6_yesOf_29 : decode cX6_yesOf 29 = .ok (.iload_n 3, 1) := by decide +kernel
theorem dX6_yesOf_30 : decode cX6_yesOf 30 = .ok (.ishl, 1) := by decide +kernel
theorem dX6_yesOf_31 : decode cX6_yesOf 31 = .ok (.ior, 1) := by decide +kernel
theorem dX6_yesOf_32 : decode cX6_yesOf 32 = .ok (.istore_n 2, 1) := by decide +kernel
theorem dX6_yesOf_33 : decode cX6_yesOf 33 = .ok (.iinc 3 1, 3) := by decide +kernel
theorem dX6_yesOf_36 : decode cX6_yesOf 36 = .ok (.goto (-32), 3) := by decide +kernel
theorem dX6_yesOf_39 : decode cX6_yesOf 39 = .ok (.iload_n 2, 1) := by decide +kernel
theorem dX6_yesOf_40 : decode cX6_yesOf 40 = .ok (.aload_n 0, 1) := by decide +kernel
theorem dX6_yesOf_41 : decode cX6_yesOf 41 = .ok (.getfield 15, 3) := by decide +kernel
theorem dX6_yesOf_44 : decode cX6_yesOf 44 = .ok (.getfield 64, 3) := by decide +kernel
theorem dX6_yesOf_47 : decode cX6_yesOf 47 = .ok (.ixor, 1) := by decide +kernel
theorem dX6_yesOf_48 : decode cX6_yesOf 48 = .ok (.ireturn, 1) := by decide +kernel
set_option maxRecDepth 20000 in
theorem ggX6_yesIfFor_X7_bit : GoodIn wsX6_yesIfFor wsX7_bit := goodIn_r _ [5] (by decide +kernel) (by decide +kernel)
set_option maxRecDepth 20000 in
theorem gX6_yesIfFor_X7_bit_n40 : GoodIn wsX6_yesIfFor (wsX7_bit) := ggX6_yesIfFor_X7_bit
set_option maxRecDepth 20000 in
theorem ggX6_yesIfFor_X6_yesOf : GoodIn wsX6_yesIfFor wsX6_yesOf := goodIn_r _ [10, 11, 12, 13, 1, 2, 3, 4, 5, 14, 15, 23, 24, 25, 26, 27, 28, 29, 16, 17, 18, 19, 20, 21, 22] (by decide +kernel) (by decide +kernel)
set_option maxRecDepth 20000 in
theorem gX6_yesIfFor_X6_yesOf : GoodIn wsX6_yesIfFor (wsV RX6 67 RX6 yX6_yesOf wsX6_yesOf) := goodIn_app (goodIn_of _ (by decide +kernel)) ggX6_yesIfFor_X6_yesOf
theorem dX6_yesIfFor_0 : decode cX6_yesIfFor 0 = .ok (.iload_n 3, 1) := by decide +kernel
theorem dX6_yesIfFor_1 : decode cX6_yesIfFor 1 = .ok (.iload_n 1, 1) := by decide +kernel
theorem dX6_yesIfFor_2 : decode cX6_yesIfFor 2 = .ok (.invokestatic 40, 3) := by decide +kernel
theorem dX6_yesIfFor_5 : decode cX6_yesIfFor 5 = .ok (.aload_n 0, 1) := by decide +kernel
theorem dX6_yesIfFor_6 : decode cX6_yesIfFor 6 = .ok (.getfield 15, 3) := by decide +kernel
theorem dX6_yesIfFor_9 : decode cX6_yesIfFor 9 = .ok (.getfield 64, 3) := by decide +kernel
theorem dX6_yesIfFor_12 : decode cX6_yesIfFor 12 = .ok (.iload_n 2, 1) := by decide +kernel
theorem dX6_yesIfFor_13 : decode cX6_yesIfFor 13 = .ok (.invokestatic 40, 3) := by decide +kernel
theorem dX6_yesIfFor_16 : decode cX6_yesIfFor 16 = .ok (.ixor, 1) := by decide +kernel
theorem dX6_yesIfFor_17 : decode cX6_yesIfFor 17 = .ok (.istore 4, 2) := by decide +kernel
theorem dX6_yesIfFor_19 : decode cX6_yesIfFor 19 = .ok (.aload_n 0, 1) := by decide +kernel
theorem dX6_yesIfFor_20 : decode cX6_yesIfFor 20 = .ok (.iload_n 1, 1) := by decide +kernel
theorem dX6_yesIfFor_21 : decode cX6_yesIfFor 21 = .ok (.invokevirtual 67, 3) := by decide +kernel
theorem dX6_yesIfFor_24 : decode cX6_yesIfFor 24 = .ok (.iconst 1, 1) := by decide +kernel
theorem dX6_yesIfFor_25 : decode cX6_yesIfFor 25 = .ok (.iload_n 2, 1) := by decide +kernel
theorem dX6_yesIfFor_26 : decode cX6_yesIfFor 26 = .ok (.ishl, 1) := by decide +kernel
theorem dX6_yesIfFor_27 : decode cX6_yesIfFor 27 = .ok (.iconst (-1), 1) := by decide +kernel
theorem dX6_yesIfFor_28 : decode cX6_yesIfFor 28 = .ok (.ixor, 1) := by decide +kernel
theorem dX6_yesIfFor_29 : decode cX6_yesIfFor 29 = .ok (.iand, 1) := by decide +kernel
theorem dX6_yesIfFor_30 : decode cX6_yesIfFor 30 = .ok (.iload 4, 2) := by decide +kernel
theorem dX6_yesIfFor_32 : decode cX6_yesIfFor 32 = .ok (.iload_n 2, 1) := by decide +kernel
theorem dX6_yesIfFor_33 : decode cX6_yesIfFor 33 = .ok (.ishl, 1) := by decide +kernel
theorem dX6_yesIfFor_34 : decode cX6_yesIfFor 34 = .ok (.ior, 1) := by decide +kernel
theorem dX6_yesIfFor_35 : decode cX6_yesIfFor 35 = .ok (.ireturn, 1) := by decide +kernel
set_option maxRecDepth 20000 in
theorem ggX6_passesBy_X6_votesOf : GoodIn wsX6_passesBy wsX6_votesOf := goodIn_r _ [5, 6, 7, 8, 9, 10, 11, 12, 13, 14, 15, 16, 17, 18, 19, 20] (by decide +kernel) (by decide +kernel)
set_option maxRecDepth 20000 in
theorem gX6_passesBy_X6_votesOf : GoodIn wsX6_passesBy (wsV RX6 70 RX6 yX6_votesOf wsX6_votesOf) := goodIn_app (goodIn_of _ (by decide +kernel)) ggX6_passesBy_X6_votesOf
theorem dX6_passesBy_0 : decode cX6_passesBy 0 = .ok (.aload_n 0, 1) := by decide +kernel
theorem dX6_passesBy_1 : decode cX6_passesBy 1 = .ok (.iload_n 1, 1) := by decide +kernel
theorem dX6_passesBy_2 : decode cX6_passesBy 2 = .ok (.iload_n 2, 1) := by decide +kernel
theorem dX6_passesBy_3 : decode cX6_passesBy 3 = .ok (.iand, 1) := by decide +kernel
theorem dX6_passesBy_4 : decode cX6_passesBy 4 = .ok (.invokevirtual 70, 3) := by decide +kernel
theorem dX6_passesBy_7 : decode cX6_passesBy 7 = .ok (.aload_n 0, 1) := by decide +kernel
theorem dX6_passesBy_8 : decode cX6_passesBy 8 = .ok (.iload_n 1, 1) := by decide +kernel
theorem dX6_passesBy_9 : decode cX6_passesBy 9 = .ok (.iload_n 2, 1) := by decide +kernel
theorem dX6_passesBy_10 : decode cX6_passesBy 10 = .ok (.iconst (-1), 1) := by decide +kernel
theorem dX6_passesBy_11 : decode cX6_passesBy 11 = .ok (.ixor, 1) := by decide +kernel
theorem dX6_passesBy_12 : decode cX6_passesBy 12 = .ok (.iand, 1) := by decide +kernel
theorem dX6_passesBy_13 : decode cX6_passesBy 13 = .ok (.invokevirtual 70, 3) := by decide +kernel
theorem dX6_passesBy_16 : decode cX6_passesBy 16 = .ok (.if_icmp .le 7, 3) := by decide +kernel
theorem dX6_passesBy_19 : decode cX6_passesBy 19 = .ok (.iconst 1, 1) := by decide +kernel
theorem dX6_passesBy_20 : decode cX6_passesBy 20 = .ok (.goto 4, 3) := by decide +kernel
theorem dX6_passesBy_23 : decode cX6_passesBy 23 = .ok (.iconst 0, 1) := by decide +kernel
theorem dX6_passesBy_24 : decode cX6_passesBy 24 = .ok (.ireturn, 1) := by decide +kernel
set_option maxRecDepth 20000 in
theorem ggX6_passes_X6_voices : GoodIn wsX6_passes wsX6_voices := goodIn_r _ [5, 6, 7, 8, 9, 10, 4, 11, 12, 13, 14, 15, 16, 17, 18, 19, 20, 21, 22, 23, 24, 25, 26, 27, 28, 44, 45, 46, 47, 48, 49, 50, 51, 52, 53, 54, 55, 56, 57, 58, 59] (by decide +kernel) (by decide +kernel)
set_option maxRecDepth 20000 in
theorem gX6_passes_X6_voices : GoodIn wsX6_passes (wsV RX6 73 RX6 yX6_voices wsX6_voices) := goodIn_app (goodIn_of _ (by decide +kernel)) ggX6_passes_X6_voices
set_option maxRecDepth 20000 in
theorem ggX6_passes_X6_yesOf : GoodIn wsX6_passes wsX6_yesOf := goodIn_r _ [32, 16, 17, 33, 6, 34, 26, 27, 28, 44, 45, 53, 54, 55, 56, 57, 58, 59, 46, 47, 48, 49, 50, 51, 52] (by decide +kernel) (by decide +kernel)
set_option maxRecDepth 20000 in
theorem gX6_passes_X6_yesOf : GoodIn wsX6_passes (wsV RX6 67 RX6 yX6_yesOf wsX6_yesOf) := goodIn_app (goodIn_of _ (by decide +kernel)) ggX6_passes_X6_yesOf
set_option maxRecDepth 20000 in
theorem ggX6_passes_X6_passesBy : GoodIn wsX6_passes wsX6_passesBy := goodIn_r _ [38, 39, 40, 41, 4, 42, 16, 17, 43, 26, 27, 28, 44, 45, 53, 54, 55, 56, 57, 58, 59] (by decide +kernel) (by decide +kernel)
set_option maxRecDepth 20000 in
theorem gX6_passes_X6_passesBy : GoodIn wsX6_passes (wsV RX6 76 RX6 yX6_passesBy wsX6_passesBy) := goodIn_app (goodIn_of _ (by decide +kernel)) ggX6_passes_X6_passesBy
theorem dX6_passes_0 : decode cX6_passes 0 = .ok (.aload_n 0, 1) := by decide +kernel
theorem dX6_passes_1 : decode cX6_passes 1 = .ok (.aload_n 0, 1) := by decide +kernel
theorem dX6_passes_2 : decode cX6_passes 2 = .ok (.invokevirtual 73, 3) := by decide +kernel
theorem dX6_passes_5 : decode cX6_passes 5 = .ok (.aload_n 0, 1) := by decide +kernel
theorem dX6_passes_6 : decode cX6_passes 6 = .ok (.iload_n 1, 1) := by decide +kernel
theorem dX6_passes_7 : decode cX6_passes 7 = .ok (.invokevirtual 67, 3) := by decide +kernel
theorem dX6_passes_10 : decode cX6_passes 10 = .ok (.invokevirtual 76, 3) := by decide +kernel
theorem dX6_passes_13 : decode cX6_passes 13 = .ok (.ireturn, 1) := by decide +kernel
set_option maxRecDepth 20000 in
theorem ggX6_votesHeldBy_X6_voices : GoodIn wsX6_votesHeldBy wsX6_voices := goodIn_r _ [5, 6, 7, 8, 9, 10, 4, 11, 12, 13, 14, 15, 16, 17, 18, 19, 20, 21, 22, 23, 24, 25, 26, 27, 28, 34, 35, 36, 37, 38, 39, 40, 41, 42, 43, 44, 45, 46, 47, 48, 49] (by decide +kernel) (by decide +kernel)
set_option maxRecDepth 20000 in
theorem gX6_votesHeldBy_X6_voices : GoodIn wsX6_votesHeldBy (wsV RX6 73 RX6 yX6_voices wsX6_voices) := goodIn_app (goodIn_of _ (by decide +kernel)) ggX6_votesHeldBy_X6_voices
set_option maxRecDepth 20000 in
theorem ggX6_votesHeldBy_X6_heldBy : GoodIn wsX6_votesHeldBy wsX6_heldBy := goodIn_r _ [24, 16, 17, 6, 25, 26, 27, 28, 34, 35, 43, 44, 45, 46, 47, 48, 49, 36, 37, 38, 39, 40, 41, 42] (by decide +kernel) (by decide +kernel)
set_option maxRecDepth 20000 in
theorem gX6_votesHeldBy_X6_heldBy : GoodIn wsX6_votesHeldBy (wsV RX6 55 RX6 yX6_heldBy wsX6_heldBy) := goodIn_app (goodIn_of _ (by decide +kernel)) ggX6_votesHeldBy_X6_heldBy
set_option maxRecDepth 20000 in
theorem ggX6_votesHeldBy_X6_votesOf : GoodIn wsX6_votesHeldBy wsX6_votesOf := goodIn_r _ [32, 16, 17, 33, 26, 27, 28, 34, 35, 43, 44, 45, 46, 47, 48, 49] (by decide +kernel) (by decide +kernel)
set_option maxRecDepth 20000 in
theorem gX6_votesHeldBy_X6_votesOf : GoodIn wsX6_votesHeldBy (wsV RX6 70 RX6 yX6_votesOf wsX6_votesOf) := goodIn_app (goodIn_of _ (by decide +kernel)) ggX6_votesHeldBy_X6_votesOf
theorem dX6_votesHeldBy_0 : decode cX6_votesHeldBy 0 = .ok (.aload_n 0, 1) := by decide +kernel
theorem dX6_votesHeldBy_1 : decode cX6_votesHeldBy 1 = .ok (.aload_n 0, 1) := by decide +kernel
theorem dX6_votesHeldBy_2 : decode cX6_votesHeldBy 2 = .ok (.invokevirtual 73, 3) := by decide +kernel
theorem dX6_votesHeldBy_5 : decode cX6_votesHeldBy 5 = .ok (.aload_n 0, 1) := by decide +kernel
theorem dX6_votesHeldBy_6 : decode cX6_votesHeldBy 6 = .ok (.iconst 1, 1) := by decide +kernel
theorem dX6_votesHeldBy_7 : decode cX6_votesHeldBy 7 = .ok (.iload_n 1, 1) := by decide +kernel
theorem dX6_votesHeldBy_8 : decode cX6_votesHeldBy 8 = .ok (.ishl, 1) := by decide +kernel
theorem dX6_votesHeldBy_9 : decode cX6_votesHeldBy 9 = .ok (.invokevirtual 55, 3) := by decide +kernel
theorem dX6_votesHeldBy_12 : decode cX6_votesHeldBy 12 = .ok (.iand, 1) := by decide +kernel
theorem dX6_votesHeldBy_13 : decode cX6_votesHeldBy 13 = .ok (.invokevirtual 70, 3) := by decide +kernel
theorem dX6_votesHeldBy_16 : decode cX6_votesHeldBy 16 = .ok (.ireturn, 1) := by decide +kernel
set_option maxRecDepth 20000 in
theorem ggX6_mostHolder_X6_votesHeldBy : GoodIn wsX6_mostHolder wsX6_votesHeldBy := goodIn_r _ [7, 8, 9, 10, 6, 11, 12, 13, 14, 15, 16, 17, 18, 19, 20, 21, 1, 22, 23, 24, 25, 26, 27, 28, 29, 30, 31, 32, 33, 34, 35, 36, 37, 38, 39, 40, 48, 49, 50, 51, 52, 53, 54, 41, 42, 43, 44, 45, 46, 47] (by decide +kernel) (by decide +kernel)
set_option maxRecDepth 20000 in
theorem gX6_mostHolder_X6_votesHeldBy : GoodIn wsX6_mostHolder (wsV RX6 80 RX6 yX6_votesHeldBy wsX6_votesHeldBy) := goodIn_app (goodIn_of _ (by decide +kernel)) ggX6_mostHolder_X6_votesHeldBy
theorem dX6_mostHolder_0 : decode cX6_mostHolder 0 = .ok (.iconst 0, 1) := by decide +kernel
theorem dX6_mostHolder_1 : decode cX6_mostHolder 1 = .ok (.istore_n 1, 1) := by decide +kernel
theorem dX6_mostHolder_2 : decode cX6_mostHolder 2 = .ok (.aload_n 0, 1) := by decide +kernel
theorem dX6_mostHolder_3 : decode cX6_mostHolder 3 = .ok (.iconst 0, 1) := by decide +kernel
theorem dX6_mostHolder_4 : decode cX6_mostHolder 4 = .ok (.invokevirtual 80, 3) := by decide +kernel
theorem dX6_mostHolder_7 : decode cX6_mostHolder 7 = .ok (.istore_n 2, 1) := by decide +kernel
theorem dX6_mostHolder_8 : decode cX6_mostHolder 8 = .ok (.iconst 1, 1) := by decide +kernel
theorem dX6_mostHolder_9 : decode cX6_mostHolder 9 = .ok (.istore_n 3, 1) := by decide +kernel
theorem dX6_mostHolder_10 : decode cX6_mostHolder 10 = .ok (.iload_n 3, 1) := by decide +kernel
theorem dX6_mostHolder_11 : decode cX6_mostHolder 11 = .ok (.aload_n 0, 1) := by decide +kernel
theorem dX6_mostHolder_12 : decode cX6_mostHolder 12 = .ok (.getfield 9, 3) := by decide +kernel
theorem dX6_mostHolder_15 : decode cX6_mostHolder 15 = .ok (.getfield 83, 3) := by decide +kernel
theorem dX6_mostHolder_18 : decode cX6_mostHolder 18 = .ok (.if_icmp .ge 27, 3) := by decide +kernel
theorem dX6_mostHolder_21 : decode cX6_mostHolder 21 = .ok (.aload_n 0, 1) := by decide +kernel
theorem dX6_mostHolder_22 : decode cX6_mostHolder 22 = .ok (.iload_n 3, 1) := by decide +kernel
theorem dX6_mostHolder_23 : decode cX6_mostHolder 23 = .ok (.invokevirtual 80, 3) := by decide +kernel
theorem dX6_mostHolder_26 : decode cX6_mostHolder 26 = .ok (.istore 4, 2) := by decide +kernel
theorem dX6_mostHolder_28 : decode cX6_mostHolder 28 = .ok (.iload 4, 2) := by decide +kernel
theorem dX6_mostHolder_30 : decode cX6_mostHolder 30 = .ok (.iload_n 2, 1) := by decide +kernel
theorem dX6_mostHolder_31 : decode cX6_mostHolder 31 = .ok (.if_icmp .le 8, 3) := by decide +kernel
theorem dX6_mostHolder_34 : decode cX6_mostHolder 34 = .ok (.iload_n 3, 1) := by decide +kernel
theorem dX6_mostHolder_35 : decode cX6_mostHolder 35 = .ok (.istore_n 1, 1) := by decide +kernel
theorem dX6_mostHolder_36 : decode cX6_mostHolder 36 = .ok (.iload 4, 2) := by decide +kernel
theorem dX6_mostHolder_38 : decode cX6_mostHolder 38 = .ok (.istore_n 2, 1) := by decide +kernel
theorem dX6_mostHolder_39 : decode cX6_mostHolder 39 = .ok (.iinc 3 1, 3) := by decide +kernel
theorem dX6_mostHolder_42 : decode cX6_mostHolder 42 = .ok (.goto (-32), 3) := by decide +kernel
theorem dX6_mostHolder_45 : decode cX6_mostHolder 45 = .ok (.iload_n 1, 1) := by decide +kernel
theorem dX6_mostHolder_46 : decode cX6_mostHolder 46 = .ok (.ireturn, 1) := by decide +kernel
set_option maxRecDepth 20000 in
theorem ggX6_swayers_X6_voices : GoodIn wsX6_swayers wsX6_voices := goodIn_r _ [7, 8, 9, 10, 11, 12, 6, 13, 14, 15, 16, 17, 1, 2, 18, 19, 20, 21, 22, 23, 24, 25, 26, 27, 28, 44, 45, 53, 54, 55, 56, 57, 58, 59, 46, 47, 48, 49, 50, 51, 52] (by decide +kernel) (by decide +kernel)
set_option maxRecDepth 20000 in
theorem gX6_swayers_X6_voices : GoodIn wsX6_swayers (wsV RX6 73 RX6 yX6_voices wsX6_voices) := goodIn_app (goodIn_of _ (by decide +kernel)) ggX6_swayers_X6_voices
set_option maxRecDepth 20000 in
theorem ggX6_swayers_X6_yesOf : GoodIn wsX6_swayers wsX6_yesOf := goodIn_r _ [32, 1, 2, 33, 8, 34, 26, 27, 28, 44, 45, 46, 47, 48, 49, 50, 51, 52, 53, 54, 55, 56, 57, 58, 59] (by decide +kernel) (by decide +kernel)
set_option maxRecDepth 20000 in
theorem gX6_swayers_X6_yesOf : GoodIn wsX6_swayers (wsV RX6 67 RX6 yX6_yesOf wsX6_yesOf) := goodIn_app (goodIn_of _ (by decide +kernel)) ggX6_swayers_X6_yesOf
set_option maxRecDepth 20000 in
theorem ggX6_swayers_X6_passesBy : GoodIn wsX6_swayers wsX6_passesBy := goodIn_r _ [38, 39, 40, 41, 6, 42, 1, 2, 43, 26, 27, 28, 44, 45, 46, 47, 48, 49, 50, 51, 52] (by decide +kernel) (by decide +kernel)
set_option maxRecDepth 20000 in
theorem gX6_swayers_X6_passesBy : GoodIn wsX6_swayers (wsV RX6 76 RX6 yX6_passesBy wsX6_passesBy) := goodIn_app (goodIn_of _ (by decide +kernel)) ggX6_swayers_X6_passesBy
theorem dX6_swayers_0 : decode cX6_swayers 0 = .ok (.aload_n 0, 1) := by decide +kernel
theorem dX6_swayers_1 : decode cX6_swayers 1 = .ok (.invokevirtual 73, 3) := by decide +kernel
theorem dX6_swayers_4 : decode cX6_swayers 4 = .ok (.istore_n 2, 1) := by decide +kernel
theorem dX6_swayers_5 : decode cX6_swayers 5 = .ok (.aload_n 0, 1) := by decide +kernel
theorem dX6_swayers_6 : decode cX6_swayers 6 = .ok (.iload_n 1, 1) := by decide +kernel
theorem dX6_swayers_7 : decode cX6_swayers 7 = .ok (.invokevirtual 67, 3) := by decide +kernel
theorem dX6_swayers_10 : decode cX6_swayers 10 = .ok (.istore_n 3, 1) := by decide +kernel
theorem dX6_swayers_11 : decode cX6_swayers 11 = .ok (.aload_n 0, 1) := by decide +kernel
theorem dX6_swayers_12 : decode cX6_swayers 12 = .ok (.iload_n 2, 1) := by decide +kernel
theorem dX6_swayers_13 : decode cX6_swayers 13 = .ok (.iload_n 3, 1) := by decide +kernel
theorem dX6_swayers_14 : decode cX6_swayers 14 = .ok (.invokevirtual 76, 3) := by decide +kernel
theorem dX6_swayers_17 : decode cX6_swayers 17 = .ok (.istore 4, 2) := by decide +kernel
theorem dX6_swayers_19 : decode cX6_swayers 19 = .ok (.iconst 0, 1) := by decide +kernel
theorem dX6_swayers_20 : decode cX6_swayers 20 = .ok (.istore 5, 2) := by decide +kernel
theorem dX6_swayers_22 : decode cX6_swayers 22 = .ok (.iconst 0, 1) := by decide +kernel
theorem dX6_swayers_23 : decode cX6_swayers 23 = .ok (.istore 6, 2) := by decide +kernel
theorem dX6_swayers_25 : decode cX6_swayers 25 = .ok (.iload 6, 2) := by decide +kernel
theorem dX6_swayers_27 : decode cX6_swayers 27 = .ok (.aload_n 0, 1) := by decide +kernel
theorem dX6_swayers_28 : decode cX6_swayers 28 = .ok (.getfield 9, 3) := by decide +kernel
theorem dX6_swayers_31 : decode cX6_swayers 31 = .ok (.getfield 19, 3) := by decide +kernel
theorem dX6_swayers_34 : decode cX6_swayers 34 = .ok (.if_icmp .ge 45, 3) := by decide +kernel
theorem dX6_swayers_37 : decode cX6_swayers 37 = .ok (.iconst 1, 1) := by decide +kernel
theorem dX6_swayers_38 : decode cX6_swayers 38 = .ok (.iload 6, 2) := by decide +kernel
theorem dX6_swayers_40 : decode cX6_swayers 40 = .ok (.ishl, 1) := by decide +kernel
theorem dX6_swayers_41 : decode cX6_swayers 41 = .ok (.istore 7, 2) := by decide +kernel
theorem dX6_swayers_43 : decode cX6_swayers 43 = .ok (.iload_n 2, 1) := by decide +kernel
theorem dX6_swayers_44 : decode cX6_swayers 44 = .ok (.iload 7, 2) := by decide +kernel
theorem dX6_swayers_46 : decode cX6_swayers 46 = .ok (.iand, 1) := by decide +kernel
theorem dX6_swayers_47 : decode cX6_swayers 47 = .ok (.ifCond .eq 26, 3) := by decide +kernel
theorem dX6_swayers_50 : decode cX6_swayers 50 = .ok (.aload_n 0, 1) := by decide +kernel
theorem dX6_swayers_51 : decode cX6_swayers 51 = .ok (.iload_n 2, 1) := by decide +kernel
theorem dX6_swayers_52 : decode cX6_swayers 52 = .ok (.iload 7, 2) := by decide +kernel
theorem dX6_swayers_54 : decode cX6_swayers 54 = .ok (.iconst (-1), 1) := by decide +kernel
theorem dX6_swayers_55 : decode cX6_swayers 55 = .ok (.ixor, 1) := by decide +kernel
theorem dX6_swayers_56 : decode cX6_swayers 56 = .ok (.iand, 1) := by decide +kernel
theorem dX6_swayers_57 : decode cX6_swayers 57 = .ok (.iload_n 3, 1) := by decide +kernel
theorem dX6_swayers_58 : decode cX6_swayers 58 = .ok (.invokevirtual 76, 3) := by decide +kernel
theorem dX6_swayers_61 : decode cX6_swayers 61 = .ok (.iload 4, 2) := by decide +kernel
theorem dX6_swayers_63 : decode cX6_swayers 63 = .ok (.if_icmp .eq 10, 3) := by decide +kernel
theorem dX6_swayers_66 : decode cX6_swayers 66 = .ok (.iload 5, 2) := by decide +kernel
theorem dX6_swayers_68 : decode cX6_swayers 68 = .ok (.iload 7, 2) := by decide +kernel
theorem dX6_swayers_70 : decode cX6_swayers 70 = .ok (.ior, 1) := by decide +kernel
theorem dX6_swayers_71 : decode cX6_swayers 71 = .ok (.istore 5, 2) := by decide +kernel
theorem dX6_swayers_73 : decode cX6_swayers 73 = .ok (.iinc 6 1, 3) := by decide +kernel
theorem dX6_swayers_76 : decode cX6_swayers 76 = .ok (.goto (-51), 3) := by decide +kernel
theorem dX6_swayers_79 : decode cX6_swayers 79 = .ok (.iload 5, 2) := by decide +kernel
theorem dX6_swayers_81 : decode cX6_swayers 81 = .ok (.ireturn, 1) := by decide +kernel
set_option maxRecDepth 20000 in
theorem ggX6_fewestTurned_X6_voices : GoodIn wsX6_fewestTurned wsX6_voices := goodIn_r _ [5, 6, 7, 8, 9, 10, 4, 11, 12, 13, 14, 15, 16, 17, 18, 19, 20, 21, 22, 23, 24, 25, 26, 27, 28, 56, 57, 58, 59, 60, 61, 62, 63, 64, 65, 66, 67, 68, 69, 70, 71] (by decide +kernel) (by decide +kernel)
set_option maxRecDepth 20000 in
theorem gX6_fewestTurned_X6_voices : GoodIn wsX6_fewestTurned (wsV RX6 73 RX6 yX6_voices wsX6_voices) := goodIn_app (goodIn_of _ (by decide +kernel)) ggX6_fewestTurned_X6_voices
set_option maxRecDepth 20000 in
theorem ggX6_fewestTurned_X6_yesOf : GoodIn wsX6_fewestTurned wsX6_yesOf := goodIn_r _ [32, 16, 17, 33, 6, 34, 26, 27, 28, 56, 57, 65, 66, 67, 68, 69, 70, 71, 58, 59, 60, 61, 62, 63, 64] (by decide +kernel) (by decide +kernel)
set_option maxRecDepth 20000 in
theorem gX6_fewestTurned_X6_yesOf : GoodIn wsX6_fewestTurned (wsV RX6 67 RX6 yX6_yesOf wsX6_yesOf) := goodIn_app (goodIn_of _ (by decide +kernel)) ggX6_fewestTurned_X6_yesOf
set_option maxRecDepth 20000 in
theorem ggX6_fewestTurned_X7_isWithin : GoodIn wsX6_fewestTurned wsX7_isWithin := goodIn_r _ [36] (by decide +kernel) (by decide +kernel)
set_option maxRecDepth 20000 in
theorem gX6_fewestTurned_X7_isWithin_n86 : GoodIn wsX6_fewestTurned (wsX7_isWithin) := ggX6_fewestTurned_X7_isWithin
set_option maxRecDepth 20000 in
theorem ggX6_fewestTurned_X6_isFewer : GoodIn wsX6_fewestTurned wsX6_isFewer := goodIn_r _ [39, 40, 41, 42, 43, 44, 45, 46] (by decide +kernel) (by decide +kernel)
set_option maxRecDepth 20000 in
theorem gX6_fewestTurned_X6_isFewer : GoodIn wsX6_fewestTurned (va_wsS RX6 89 yX6_isFewer wsX6_isFewer) := goodIn_app (goodIn_of _ (by decide +kernel)) ggX6_fewestTurned_X6_isFewer
set_option maxRecDepth 20000 in
theorem ggX6_fewestTurned_X6_passesBy : GoodIn wsX6_fewestTurned wsX6_passesBy := goodIn_r _ [50, 51, 52, 53, 4, 54, 16, 17, 55, 26, 27, 28, 56, 57, 65, 66, 67, 68, 69, 70, 71] (by decide +kernel) (by decide +kernel)
set_option maxRecDepth 20000 in
theorem gX6_fewestTurned_X6_passesBy : GoodIn wsX6_fewestTurned (wsV RX6 76 RX6 yX6_passesBy wsX6_passesBy) := goodIn_app (goodIn_of _ (by decide +kernel)) ggX6_fewestTurned_X6_passesBy
theorem dX6_fewestTurned_0 : decode cX6_fewestTurned 0 = .ok (.aload_n 0, 1) := by decide +kernel
theorem dX6_fewestTurned_1 : decode cX6_fewestTurned 1 = .ok (.invokevirtual 73, 3) := by decide +kernel
theorem dX6_fewestTurned_4 : decode cX6_fewestTurned 4 = .ok (.istore_n 2, 1) := by decide +kernel
theorem dX6_fewestTurned_5 : decode cX6_fewestTurned 5 = .ok (.aload_n 0, 1) := by decide +kernel
theorem dX6_fewestTurned_6 : decode cX6_fewestTurned 6 = .ok (.iload_n 1, 1) := by decide +kernel
theorem dX6_fewestTurned_7 : decode cX6_fewestTurned 7 = .ok (.invokevirtual 67, 3) := by decide +kernel
theorem dX6_fewestTurned_10 : decode cX6_fewestTurned 10 = .ok (.istore_n 3, 1) := by decide +kernel
theorem dX6_fewestTurned_11 : decode cX6_fewestTurned 11 = .ok (.bipush (-9), 2) := by decide +kernel
theorem dX6_fewestTurned_13 : decode cX6_fewestTurned 13 = .ok (.istore 4, 2) := by decide +kernel
theorem dX6_fewestTurned_15 : decode cX6_fewestTurned 15 = .ok (.iconst 0, 1) := by decide +kernel
theorem dX6_fewestTurned_16 : decode cX6_fewestTurned 16 = .ok (.istore 5, 2) := by decide +kernel
theorem dX6_fewestTurned_18 : decode cX6_fewestTurned 18 = .ok (.iload 5, 2) := by decide +kernel
theorem dX6_fewestTurned_20 : decode cX6_fewestTurned 20 = .ok (.sipush 128, 3) := by decide +kernel
theorem dX6_fewestTurned_23 : decode cX6_fewestTurned 23 = .ok (.if_icmp .ge 44, 3) := by decide +kernel
theorem dX6_fewestTurned_26 : decode cX6_fewestTurned 26 = .ok (.iload 5, 2) := by decide +kernel
theorem dX6_fewestTurned_28 : decode cX6_fewestTurned 28 = .ok (.iload_n 2, 1) := by decide +kernel
theorem dX6_fewestTurned_29 : decode cX6_fewestTurned 29 = .ok (.invokestatic 86, 3) := by decide +kernel
theorem dX6_fewestTurned_32 : decode cX6_fewestTurned 32 = .ok (.ifCond .eq 29, 3) := by decide +kernel
theorem dX6_fewestTurned_35 : decode cX6_fewestTurned 35 = .ok (.iload 5, 2) := by decide +kernel
theorem dX6_fewestTurned_37 : decode cX6_fewestTurned 37 = .ok (.iload 4, 2) := by decide +kernel
theorem dX6_fewestTurned_39 : decode cX6_fewestTurned 39 = .ok (.invokestatic 89, 3) := by decide +kernel
theorem dX6_fewestTurned_42 : decode cX6_fewestTurned 42 = .ok (.ifCond .eq 19, 3) := by decide +kernel
theorem dX6_fewestTurned_45 : decode cX6_fewestTurned 45 = .ok (.aload_n 0, 1) := by decide +kernel
theorem dX6_fewestTurned_46 : decode cX6_fewestTurned 46 = .ok (.iload_n 2, 1) := by decide +kernel
theorem dX6_fewestTurned_47 : decode cX6_fewestTurned 47 = .ok (.iload_n 3, 1) := by decide +kernel
theorem dX6_fewestTurned_48 : decode cX6_fewestTurned 48 = .ok (.iload 5, 2) := by decide +kernel
theorem dX6_fewestTurned_50 : decode cX6_fewestTurned 50 = .ok (.ixor, 1) := by decide +kernel
theorem dX6_fewestTurned_51 : decode cX6_fewestTurned 51 = .ok (.invokevirtual 76, 3) := by decide +kernel
theorem dX6_fewestTurned_54 : decode cX6_fewestTurned 54 = .ok (.ifCond .eq 7, 3) := by decide +kernel
theorem dX6_fewestTurned_57 : decode cX6_fewestTurned 57 = .ok (.iload 5, 2) := by decide +kernel
theorem dX6_fewestTurned_59 : decode cX6_fewestTurned 59 = .ok (.istore 4, 2) := by decide +kernel
theorem dX6_fewestTurned_61 : decode cX6_fewestTurned 61 = .ok (.iinc 5 1, 3) := by decide +kernel
theorem dX6_fewestTurned_64 : decode cX6_fewestTurned 64 = .ok (.goto (-46), 3) := by decide +kernel
theorem dX6_fewestTurned_67 : decode cX6_fewestTurned 67 = .ok (.iload 4, 2) := by decide +kernel
theorem dX6_fewestTurned_69 : decode cX6_fewestTurned 69 = .ok (.ireturn, 1) := by decide +kernel
set_option maxRecDepth 20000 in
theorem ggX6_fewestHanded_X6_able : GoodIn wsX6_fewestHanded wsX6_able := goodIn_r _ [7, 8, 9, 10, 1, 11, 12, 61, 62, 70, 71, 72, 73, 74, 75, 76, 63, 64, 65, 66, 67, 68, 69] (by decide +kernel) (by decide +kernel)
set_option maxRecDepth 20000 in
theorem gX6_fewestHanded_X6_able : GoodIn wsX6_fewestHanded (wsV RX6 51 RX6 yX6_able wsX6_able) := goodIn_app (goodIn_of _ (by decide +kernel)) ggX6_fewestHanded_X6_able
set_option maxRecDepth 20000 in
theorem ggX6_fewestHanded_X6_voices : GoodIn wsX6_fewestHanded wsX6_voices := goodIn_r _ [16, 1, 2, 17, 18, 19, 6, 20, 3, 4, 5, 7, 8, 9, 10, 11, 12, 21, 22, 23, 24, 25, 26, 27, 28, 61, 62, 63, 64, 65, 66, 67, 68, 69, 70, 71, 72, 73, 74, 75, 76] (by decide +kernel) (by decide +kernel)
set_option maxRecDepth 20000 in
theorem gX6_fewestHanded_X6_voices : GoodIn wsX6_fewestHanded (wsV RX6 73 RX6 yX6_voices wsX6_voices) := goodIn_app (goodIn_of _ (by decide +kernel)) ggX6_fewestHanded_X6_voices
set_option maxRecDepth 20000 in
theorem ggX6_fewestHanded_X6_yesOf : GoodIn wsX6_fewestHanded wsX6_yesOf := goodIn_r _ [32, 8, 9, 33, 1, 34, 26, 27, 28, 61, 62, 70, 71, 72, 73, 74, 75, 76, 63, 64, 65, 66, 67, 68, 69] (by decide +kernel) (by decide +kernel)
set_option maxRecDepth 20000 in
theorem gX6_fewestHanded_X6_yesOf : GoodIn wsX6_fewestHanded (wsV RX6 67 RX6 yX6_yesOf wsX6_yesOf) := goodIn_app (goodIn_of _ (by decide +kernel)) ggX6_fewestHanded_X6_yesOf
set_option maxRecDepth 20000 in
theorem ggX6_fewestHanded_X6_isAnyoneWell : GoodIn wsX6_fewestHanded wsX6_isAnyoneWell := goodIn_r _ [38, 1, 2, 8, 39, 40, 41, 42, 43, 44, 45, 46, 61, 62, 63, 64, 65, 66, 67, 68, 69, 70, 71, 72, 73, 74, 75, 76] (by decide +kernel) (by decide +kernel)
set_option maxRecDepth 20000 in
theorem gX6_fewestHanded_X6_isAnyoneWell : GoodIn wsX6_fewestHanded (wsV RX6 92 RX6 yX6_isAnyoneWell wsX6_isAnyoneWell) := goodIn_app (goodIn_of _ (by decide +kernel)) ggX6_fewestHanded_X6_isAnyoneWell
set_option maxRecDepth 20000 in
theorem ggX6_fewestHanded_X6_heldBy : GoodIn wsX6_fewestHanded wsX6_heldBy := goodIn_r _ [24, 8, 9, 1, 25, 26, 27, 28, 61, 62, 70, 71, 72, 73, 74, 75, 76, 63, 64, 65, 66, 67, 68, 69] (by decide +kernel) (by decide +kernel)
set_option maxRecDepth 20000 in
theorem gX6_fewestHanded_X6_heldBy : GoodIn wsX6_fewestHanded (wsV RX6 55 RX6 yX6_heldBy wsX6_heldBy) := goodIn_app (goodIn_of _ (by decide +kernel)) ggX6_fewestHanded_X6_heldBy
set_option maxRecDepth 20000 in
theorem ggX6_fewestHanded_X7_isWithin : GoodIn wsX6_fewestHanded wsX7_isWithin := goodIn_r _ [48] (by decide +kernel) (by decide +kernel)
set_option maxRecDepth 20000 in
theorem gX6_fewestHanded_X7_isWithin_n86 : GoodIn wsX6_fewestHanded (wsX7_isWithin) := ggX6_fewestHanded_X7_isWithin
set_option maxRecDepth 20000 in
theorem ggX6_fewestHanded_X6_isFewer : GoodIn wsX6_fewestHanded wsX6_isFewer := goodIn_r _ [51, 40, 41, 42, 43, 44, 45, 46] (by decide +kernel) (by decide +kernel)
set_option maxRecDepth 20000 in
theorem gX6_fewestHanded_X6_isFewer : GoodIn wsX6_fewestHanded (va_wsS RX6 89 yX6_isFewer wsX6_isFewer) := goodIn_app (goodIn_of _ (by decide +kernel)) ggX6_fewestHanded_X6_isFewer
set_option maxRecDepth 20000 in
theorem ggX6_fewestHanded_X6_passesBy : GoodIn wsX6_fewestHanded wsX6_passesBy := goodIn_r _ [55, 56, 57, 58, 6, 59, 8, 9, 60, 26, 27, 28, 61, 62, 70, 71, 72, 73, 74, 75, 76] (by decide +kernel) (by decide +kernel)
set_option maxRecDepth 20000 in
theorem gX6_fewestHanded_X6_passesBy : GoodIn wsX6_fewestHanded (wsV RX6 76 RX6 yX6_passesBy wsX6_passesBy) := goodIn_app (goodIn_of _ (by decide +kernel)) ggX6_fewestHanded_X6_passesBy
theorem dX6_fewestHanded_0 : decode cX6_fewestHanded 0 = .ok (.aload_n 0, 1) := by decide +kernel
theorem dX6_fewestHanded_1 : decode cX6_fewestHanded 1 = .ok (.invokevirtual 51, 3) := by decide +kernel
theorem dX6_fewestHanded_4 : decode cX6_fewestHanded 4 = .ok (.istore_n 2, 1) := by decide +kernel
theorem dX6_fewestHanded_5 : decode cX6_fewestHanded 5 = .ok (.aload_n 0, 1) := by decide +kernel
theorem dX6_fewestHanded_6 : decode cX6_fewestHanded 6 = .ok (.invokevirtual 73, 3) := by decide +kernel
theorem dX6_fewestHanded_9 : decode cX6_fewestHanded 9 = .ok (.istore_n 3, 1) := by decide +kernel
theorem dX6_fewestHanded_10 : decode cX6_fewestHanded 10 = .ok (.aload_n 0, 1) := by decide +kernel
theorem dX6_fewestHanded_11 : decode cX6_fewestHanded 11 = .ok (.iload_n 1, 1) := by decide +kernel
theorem dX6_fewestHanded_12 : decode cX6_fewestHanded 12 = .ok (.invokevirtual 67, 3) := by decide +kernel
theorem dX6_fewestHanded_15 : decode cX6_fewestHanded 15 = .ok (.istore 4, 2) := by decide +kernel
theorem dX6_fewestHanded_17 : decode cX6_fewestHanded 17 = .ok (.aload_n 0, 1) := by decide +kernel
theorem dX6_fewestHanded_18 : decode cX6_fewestHanded 18 = .ok (.invokevirtual 92, 3) := by decide +kernel
theorem dX6_fewestHanded_21 : decode cX6_fewestHanded 21 = .ok (.ifCond .eq 17, 3) := by decide +kernel
theorem dX6_fewestHanded_24 : decode cX6_fewestHanded 24 = .ok (.aload_n 0, 1) := by decide +kernel
theorem dX6_fewestHanded_25 : decode cX6_fewestHanded 25 = .ok (.aload_n 0, 1) := by decide +kernel
theorem dX6_fewestHanded_26 : decode cX6_fewestHanded 26 = .ok (.getfield 15, 3) := by decide +kernel
theorem dX6_fewestHanded_29 : decode cX6_fewestHanded 29 = .ok (.getfield 44, 3) := by decide +kernel
theorem dX6_fewestHanded_32 : decode cX6_fewestHanded 32 = .ok (.invokevirtual 55, 3) := by decide +kernel
theorem dX6_fewestHanded_35 : decode cX6_fewestHanded 35 = .ok (.goto 4, 3) := by decide +kernel
theorem dX6_fewestHanded_38 : decode cX6_fewestHanded 38 = .ok (.iconst 0, 1) := by decide +kernel
theorem dX6_fewestHanded_39 : decode cX6_fewestHanded 39 = .ok (.istore 5, 2) := by decide +kernel
theorem dX6_fewestHanded_41 : decode cX6_fewestHanded 41 = .ok (.bipush (-9), 2) := by decide +kernel
theorem dX6_fewestHanded_43 : decode cX6_fewestHanded 43 = .ok (.istore 6, 2) := by decide +kernel
theorem dX6_fewestHanded_45 : decode cX6_fewestHanded 45 = .ok (.iconst 0, 1) := by decide +kernel
theorem dX6_fewestHanded_46 : decode cX6_fewestHanded 46 = .ok (.istore 7, 2) := by decide +kernel
theorem dX6_fewestHanded_48 : decode cX6_fewestHanded 48 = .ok (.iload 7, 2) := by decide +kernel
theorem dX6_fewestHanded_50 : decode cX6_fewestHanded 50 = .ok (.sipush 128, 3) := by decide +kernel
theorem dX6_fewestHanded_53 : decode cX6_fewestHanded 53 = .ok (.if_icmp .ge 48, 3) := by decide +kernel
theorem dX6_fewestHanded_56 : decode cX6_fewestHanded 56 = .ok (.iload 7, 2) := by decide +kernel
theorem dX6_fewestHanded_58 : decode cX6_fewestHanded 58 = .ok (.iload 5, 2) := by decide +kernel
theorem dX6_fewestHanded_60 : decode cX6_fewestHanded 60 = .ok (.invokestatic 86, 3) := by decide +kernel
theorem dX6_fewestHanded_63 : decode cX6_fewestHanded 63 = .ok (.ifCond .eq 32, 3) := by decide +kernel
theorem dX6_fewestHanded_66 : decode cX6_fewestHanded 66 = .ok (.iload 7, 2) := by decide +kernel
theorem dX6_fewestHanded_68 : decode cX6_fewestHanded 68 = .ok (.iload 6, 2) := by decide +kernel
theorem dX6_fewestHanded_70 : decode cX6_fewestHanded 70 = .ok (.invokestatic 89, 3) := by decide +kernel
theorem dX6_fewestHanded_73 : decode cX6_fewestHanded 73 = .ok (.ifCond .eq 22, 3) := by decide +kernel
theorem dX6_fewestHanded_76 : decode cX6_fewestHanded 76 = .ok (.aload_n 0, 1) := by decide +kernel
theorem dX6_fewestHanded_77 : decode cX6_fewestHanded 77 = .ok (.iload_n 3, 1) := by decide +kernel
theorem dX6_fewestHanded_78 : decode cX6_fewestHanded 78 = .ok (.iload 7, 2) := by decide +kernel
theorem dX6_fewestHanded_80 : decode cX6_fewestHanded 80 = .ok (.iload_n 2, 1) := by decide +kernel
theorem dX6_fewestHanded_81 : decode cX6_fewestHanded 81 = .ok (.iand, 1) := by decide +kernel
theorem dX6_fewestHanded_82 : decode cX6_fewestHanded 82 = .ok (.ior, 1) := by decide +kernel
theorem dX6_fewestHanded_83 : decode cX6_fewestHanded 83 = .ok (.iload 4, 2) := by decide +kernel
theorem dX6_fewestHanded_85 : decode cX6_fewestHanded 85 = .ok (.invokevirtual 76, 3) := by decide +kernel
theorem dX6_fewestHanded_88 : decode cX6_fewestHanded 88 = .ok (.ifCond .eq 7, 3) := by decide +kernel
theorem dX6_fewestHanded_91 : decode cX6_fewestHanded 91 = .ok (.iload 7, 2) := by decide +kernel
theorem dX6_fewestHanded_93 : decode cX6_fewestHanded 93 = .ok (.istore 6, 2) := by decide +kernel
theorem dX6_fewestHanded_95 : decode cX6_fewestHanded 95 = .ok (.iinc 7 1, 3) := by decide +kernel
theorem dX6_fewestHanded_98 : decode cX6_fewestHanded 98 = .ok (.goto (-50), 3) := by decide +kernel
theorem dX6_fewestHanded_101 : decode cX6_fewestHanded 101 = .ok (.iload 6, 2) := by decide +kernel
theorem dX6_fewestHanded_103 : decode cX6_fewestHanded 103 = .ok (.ireturn, 1) := by decide +kernel
set_option maxRecDepth 20000 in
theorem ggX6_isAnyoneWell_J6_bitCount_0f7a4 : GoodIn wsX6_isAnyoneWell wsJ6_bitCount_0f7a4 := goodIn_r _ [8, 9, 10, 11] (by decide +kernel) (by decide +kernel)
set_option maxRecDepth 20000 in
theorem gX6_isAnyoneWell_J6_bitCount_0f7a4 : GoodIn wsX6_isAnyoneWell (va_wsS RX6 96 yJ6_bitCount_0f7a4 wsJ6_bitCount_0f7a4) := goodIn_app (goodIn_of _ (by decide +kernel)) ggX6_isAnyoneWell_J6_bitCount_0f7a4
theorem dX6_isAnyoneWell_0 : decode cX6_isAnyoneWell 0 = .ok (.aload_n 0, 1) := by decide +kernel
theorem dX6_isAnyoneWell_1 : decode cX6_isAnyoneWell 1 = .ok (.getfield 15, 3) := by decide +kernel
theorem dX6_isAnyoneWell_4 : decode cX6_isAnyoneWell 4 = .ok (.getfield 44, 3) := by decide +kernel
theorem dX6_isAnyoneWell_7 : decode cX6_isAnyoneWell 7 = .ok (.invokestatic 96, 3) := by decide +kernel
theorem dX6_isAnyoneWell_10 : decode cX6_isAnyoneWell 10 = .ok (.aload_n 0, 1) := by decide +kernel
theorem dX6_isAnyoneWell_11 : decode cX6_isAnyoneWell 11 = .ok (.getfield 9, 3) := by decide +kernel
theorem dX6_isAnyoneWell_14 : decode cX6_isAnyoneWell 14 = .ok (.getfield 83, 3) := by decide +kernel
theorem dX6_isAnyoneWell_17 : decode cX6_isAnyoneWell 17 = .ok (.if_icmp .ge 7, 3) := by decide +kernel
theorem dX6_isAnyoneWell_20 : decode cX6_isAnyoneWell 20 = .ok (.iconst 1, 1) := by decide +kernel
theorem dX6_isAnyoneWell_21 : decode cX6_isAnyoneWell 21 = .ok (.goto 4, 3) := by decide +kernel
theorem dX6_isAnyoneWell_24 : decode cX6_isAnyoneWell 24 = .ok (.iconst 0, 1) := by decide +kernel
theorem dX6_isAnyoneWell_25 : decode cX6_isAnyoneWell 25 = .ok (.ireturn, 1) := by decide +kernel
set_option maxRecDepth 20000 in
theorem ggX6_isFewer_J6_bitCount_0f7a4 : GoodIn wsX6_isFewer wsJ6_bitCount_0f7a4 := goodIn_r _ [4, 5, 6, 7] (by decide +kernel) (by decide +kernel)
set_option maxRecDepth 20000 in
theorem gX6_isFewer_J6_bitCount_0f7a4 : GoodIn wsX6_isFewer (va_wsS RX6 96 yJ6_bitCount_0f7a4 wsJ6_bitCount_0f7a4) := goodIn_app (goodIn_of _ (by decide +kernel)) ggX6_isFewer_J6_bitCount_0f7a4
theorem dX6_isFewer_0 : decode cX6_isFewer 0 = .ok (.iload_n 1, 1) := by decide +kernel
theorem dX6_isFewer_1 : decode cX6_isFewer 1 = .ok (.bipush (-9), 2) := by decide +kernel
theorem dX6_isFewer_3 : decode cX6_isFewer 3 = .ok (.if_icmp .eq 14, 3) := by decide +kernel
theorem dX6_isFewer_6 : decode cX6_isFewer 6 = .ok (.iload_n 0, 1) := by decide +kernel
theorem dX6_isFewer_7 : decode cX6_isFewer 7 = .ok (.invokestatic 96, 3) := by decide +kernel
theorem dX6_isFewer_10 : decode cX6_isFewer 10 = .ok (.iload_n 1, 1) := by decide +kernel
theorem dX6_isFewer_11 : decode cX6_isFewer 11 = .ok (.invokestatic 96, 3) := by decide +kernel
theorem dX6_isFewer_14 : decode cX6_isFewer 14 = .ok (.if_icmp .ge 7, 3) := by decide +kernel
theorem dX6_isFewer_17 : decode cX6_isFewer 17 = .ok (.iconst 1, 1) := by decide +kernel
theorem dX6_isFewer_18 : decode cX6_isFewer 18 = .ok (.goto 4, 3) := by decide +kernel
theorem dX6_isFewer_21 : decode cX6_isFewer 21 = .ok (.iconst 0, 1) := by decide +kernel
theorem dX6_isFewer_22 : decode cX6_isFewer 22 = .ok (.ireturn, 1) := by decide +kernel
set_option maxRecDepth 20000 in
theorem ggX6_changingSwaps_X6_able : GoodIn wsX6_changingSwaps wsX6_able := goodIn_r _ [10, 3, 4, 11, 1, 12, 13, 39, 40, 48, 49, 50, 51, 52, 53, 54, 41, 42, 43, 44, 45, 46, 47] (by decide +kernel) (by decide +kernel)
set_option maxRecDepth 20000 in
theorem gX6_changingSwaps_X6_able : GoodIn wsX6_changingSwaps (wsV RX6 51 RX6 yX6_able wsX6_able) := goodIn_app (goodIn_of _ (by decide +kernel)) ggX6_changingSwaps_X6_able
set_option maxRecDepth 20000 in
theorem ggX6_changingSwaps_X6_heldBy : GoodIn wsX6_changingSwaps wsX6_heldBy := goodIn_r _ [17, 3, 4, 1, 5, 18, 19, 20, 39, 40, 48, 49, 50, 51, 52, 53, 54, 41, 42, 43, 44, 45, 46, 47] (by decide +kernel) (by decide +kernel)
set_option maxRecDepth 20000 in
theorem gX6_changingSwaps_X6_heldBy : GoodIn wsX6_changingSwaps (wsV RX6 55 RX6 yX6_heldBy wsX6_heldBy) := goodIn_app (goodIn_of _ (by decide +kernel)) ggX6_changingSwaps_X6_heldBy
set_option maxRecDepth 20000 in
theorem ggX6_changingSwaps_X6_yesOf : GoodIn wsX6_changingSwaps wsX6_yesOf := goodIn_r _ [24, 3, 4, 25, 1, 26, 18, 19, 20, 39, 40, 48, 49, 50, 51, 52, 53, 54, 41, 42, 43, 44, 45, 46, 47] (by decide +kernel) (by decide +kernel)
set_option maxRecDepth 20000 in
theorem gX6_changingSwaps_X6_yesOf : GoodIn wsX6_changingSwaps (wsV RX6 67 RX6 yX6_yesOf wsX6_yesOf) := goodIn_app (goodIn_of _ (by decide +kernel)) ggX6_changingSwaps_X6_yesOf
set_option maxRecDepth 20000 in
theorem ggX6_changingSwaps_X6_passesBy : GoodIn wsX6_changingSwaps wsX6_passesBy := goodIn_r _ [30, 31, 32, 33, 9, 34, 3, 4, 35, 18, 19, 20, 39, 40, 48, 49, 50, 51, 52, 53, 54] (by decide +kernel) (by decide +kernel)
set_option maxRecDepth 20000 in
theorem gX6_changingSwaps_X6_passesBy : GoodIn wsX6_changingSwaps (wsV RX6 76 RX6 yX6_passesBy wsX6_passesBy) := goodIn_app (goodIn_of _ (by decide +kernel)) ggX6_changingSwaps_X6_passesBy
set_option maxRecDepth 20000 in
theorem ggX6_changingSwaps_X6_exchanged : GoodIn wsX6_changingSwaps wsX6_exchanged := goodIn_r _ [38, 18, 19, 20] (by decide +kernel) (by decide +kernel)
set_option maxRecDepth 20000 in
theorem gX6_changingSwaps_X6_exchanged : GoodIn wsX6_changingSwaps (va_wsS RX6 101 yX6_exchanged wsX6_exchanged) := goodIn_app (goodIn_of _ (by decide +kernel)) ggX6_changingSwaps_X6_exchanged
theorem dX6_changingSwaps_0 : decode cX6_changingSwaps 0 = .ok (.aload_n 0, 1) := by decide +kernel
theorem dX6_changingSwaps_1 : decode cX6_changingSwaps 1 = .ok (.invokevirtual 51, 3) := by decide +kernel
theorem dX6_changingSwaps_4 : decode cX6_changingSwaps 4 = .ok (.istore_n 2, 1) := by decide +kernel
theorem dX6_changingSwaps_5 : decode cX6_changingSwaps 5 = .ok (.aload_n 0, 1) := by decide +kernel
theorem dX6_changingSwaps_6 : decode cX6_changingSwaps 6 = .ok (.aload_n 0, 1) := by decide +kernel
theorem dX6_changingSwaps_7 : decode cX6_changingSwaps 7 = .ok (.getfield 15, 3) := by decide +kernel
theorem dX6_changingSwaps_10 : decode cX6_changingSwaps 10 = .ok (.getfield 44, 3) := by decide +kernel
theorem dX6_changingSwaps_13 : decode cX6_changingSwaps 13 = .ok (.invokevirtual 55, 3) := by decide +kernel
theorem dX6_changingSwaps_16 : decode cX6_changingSwaps 16 = .ok (.iconst (-1), 1) := by decide +kernel
theorem dX6_changingSwaps_17 : decode cX6_changingSwaps 17 = .ok (.ixor, 1) := by decide +kernel
theorem dX6_changingSwaps_18 : decode cX6_changingSwaps 18 = .ok (.istore_n 3, 1) := by decide +kernel
theorem dX6_changingSwaps_19 : decode cX6_changingSwaps 19 = .ok (.aload_n 0, 1) := by decide +kernel
theorem dX6_changingSwaps_20 : decode cX6_changingSwaps 20 = .ok (.iload_n 1, 1) := by decide +kernel
theorem dX6_changingSwaps_21 : decode cX6_changingSwaps 21 = .ok (.invokevirtual 67, 3) := by decide +kernel
theorem dX6_changingSwaps_24 : decode cX6_changingSwaps 24 = .ok (.istore 4, 2) := by decide +kernel
theorem dX6_changingSwaps_26 : decode cX6_changingSwaps 26 = .ok (.aload_n 0, 1) := by decide +kernel
theorem dX6_changingSwaps_27 : decode cX6_changingSwaps 27 = .ok (.iload_n 2, 1) := by decide +kernel
theorem dX6_changingSwaps_28 : decode cX6_changingSwaps 28 = .ok (.iload_n 3, 1) := by decide +kernel
theorem dX6_changingSwaps_29 : decode cX6_changingSwaps 29 = .ok (.iand, 1) := by decide +kernel
theorem dX6_changingSwaps_30 : decode cX6_changingSwaps 30 = .ok (.iload 4, 2) := by decide +kernel
theorem dX6_changingSwaps_32 : decode cX6_changingSwaps 32 = .ok (.invokevirtual 76, 3) := by decide +kernel
theorem dX6_changingSwaps_35 : decode cX6_changingSwaps 35 = .ok (.istore 5, 2) := by decide +kernel
theorem dX6_changingSwaps_37 : decode cX6_changingSwaps 37 = .ok (.iconst 0, 1) := by decide +kernel
theorem dX6_changingSwaps_38 : decode cX6_changingSwaps 38 = .ok (.istore 6, 2) := by decide +kernel
theorem dX6_changingSwaps_40 : decode cX6_changingSwaps 40 = .ok (.iconst 0, 1) := by decide +kernel
theorem dX6_changingSwaps_41 : decode cX6_changingSwaps 41 = .ok (.istore 7, 2) := by decide +kernel
theorem dX6_changingSwaps_43 : decode cX6_changingSwaps 43 = .ok (.iload 7, 2) := by decide +kernel
theorem dX6_changingSwaps_45 : decode cX6_changingSwaps 45 = .ok (.aload_n 0, 1) := by decide +kernel
theorem dX6_changingSwaps_46 : decode cX6_changingSwaps 46 = .ok (.getfield 9, 3) := by decide +kernel
theorem dX6_changingSwaps_49 : decode cX6_changingSwaps 49 = .ok (.getfield 19, 3) := by decide +kernel
theorem dX6_changingSwaps_52 : decode cX6_changingSwaps 52 = .ok (.if_icmp .ge 84, 3) := by decide +kernel
theorem dX6_changingSwaps_55 : decode cX6_changingSwaps 55 = .ok (.iload 7, 2) := by decide +kernel
theorem dX6_changingSwaps_57 : decode cX6_changingSwaps 57 = .ok (.iconst 1, 1) := by decide +kernel
theorem dX6_changingSwaps_58 : decode cX6_changingSwaps 58 = .ok (.iadd, 1) := by decide +kernel
theorem dX6_changingSwaps_59 : decode cX6_changingSwaps 59 = .ok (.istore 8, 2) := by decide +kernel
theorem dX6_changingSwaps_61 : decode cX6_changingSwaps 61 = .ok (.iload 8, 2) := by decide +kernel
theorem dX6_changingSwaps_63 : decode cX6_changingSwaps 63 = .ok (.aload_n 0, 1) := by decide +kernel
theorem dX6_changingSwaps_64 : decode cX6_changingSwaps 64 = .ok (.getfield 9, 3) := by decide +kernel
theorem dX6_changingSwaps_67 : decode cX6_changingSwaps 67 = .ok (.getfield 19, 3) := by decide +kernel
theorem dX6_changingSwaps_70 : decode cX6_changingSwaps 70 = .ok (.if_icmp .ge 60, 3) := by decide +kernel
theorem dX6_changingSwaps_73 : decode cX6_changingSwaps 73 = .ok (.iload_n 3, 1) := by decide +kernel
theorem dX6_changingSwaps_74 : decode cX6_changingSwaps 74 = .ok (.iload 7, 2) := by decide +kernel
theorem dX6_changingSwaps_76 : decode cX6_changingSwaps 76 = .ok (.iload 8, 2) := by decide +kernel
theorem dX6_changingSwaps_78 : decode cX6_changingSwaps 78 = .ok (.invokestatic 101, 3) := by decide +kernel
theorem dX6_changingSwaps_81 : decode cX6_changingSwaps 81 = .ok (.istore 9, 2) := by decide +kernel
theorem dX6_changingSwaps_83 : decode cX6_changingSwaps 83 = .ok (.aload_n 0, 1) := by decide +kernel
theorem dX6_changingSwaps_84 : decode cX6_changingSwaps 84 = .ok (.getfield 15, 3) := by decide +kernel
theorem dX6_changingSwaps_87 : decode cX6_changingSwaps 87 = .ok (.getfield 37, 3) := by decide +kernel
theorem dX6_changingSwaps_90 : decode cX6_changingSwaps 90 = .ok (.iload 7, 2) := by decide +kernel
theorem dX6_changingSwaps_92 : decode cX6_changingSwaps 92 = .ok (.iaload, 1) := by decide +kernel
theorem dX6_changingSwaps_93 : decode cX6_changingSwaps 93 = .ok (.aload_n 0, 1) := by decide +kernel
theorem dX6_changingSwaps_94 : decode cX6_changingSwaps 94 = .ok (.getfield 15, 3) := by decide +kernel
theorem dX6_changingSwaps_97 : decode cX6_changingSwaps 97 = .ok (.getfield 37, 3) := by decide +kernel
theorem dX6_changingSwaps_100 : decode cX6_changingSwaps 100 = .ok (.iload 8, 2) := by decide +kernel
theorem dX6_changingSwaps_102 : decode cX6_changingSwaps 102 = .ok (.iaload, 1) := by decide +kernel
theorem dX6_changingSwaps_103 : decode cX6_changingSwaps 103 = .ok (.if_icmp .eq 21, 3) := by decide +kernel
theorem dX6_changingSwaps_106 : decode cX6_changingSwaps 106 = .ok (.aload_n 0, 1) := by decide +kernel
theorem dX6_changingSwaps_107 : decode cX6_changingSwaps 107 = .ok (.iload_n 2, 1) := by decide +kernel
end
section
theorem dX6_changingSwaps_108 : decode cX6_changingSwaps 108 = .ok (.iload 9, 2) := by decide +kernel
theorem dX6_changingSwaps_110 : decode cX6_changingSwaps 110 = .ok (.iand, 1) := by decide +kernel
theorem dX6_changingSwaps_111 : decode cX6_changingSwaps 111 = .ok (.iload 4, 2) := by decide +kernel
theorem dX6_changingSwaps_113 : decode cX6_changingSwaps 113 = .ok (.invokevirtual 76, 3) := by decide +kernel
theorem dX6_changingSwaps_116 : decode cX6_changingSwaps 116 = .ok (.iload 5, 2) := by decide +kernel
theorem dX6_changingSwaps_118 : decode cX6_changingSwaps 118 = .ok (.if_icmp .eq 6, 3) := by decide +kernel
theorem dX6_changingSwaps_121 : decode cX6_changingSwaps 121 = .ok (.iinc 6 1, 3) := by decide +kernel
theorem dX6_changingSwaps_124 : decode cX6_changingSwaps 124 = .ok (.iinc 8 1, 3) := by decide +kernel
theorem dX6_changingSwaps_127 : decode cX6_changingSwaps 127 = .ok (.goto (-66), 3) := by decide +kernel
theorem dX6_changingSwaps_130 : decode cX6_changingSwaps 130 = .ok (.iinc 7 1, 3) := by decide +kernel
theorem dX6_changingSwaps_133 : decode cX6_changingSwaps 133 = .ok (.goto (-90), 3) := by decide +kernel
theorem dX6_changingSwaps_136 : decode cX6_changingSwaps 136 = .ok (.iload 6, 2) := by decide +kernel
theorem dX6_changingSwaps_138 : decode cX6_changingSwaps 138 = .ok (.ireturn, 1) := by decide +kernel
set_option maxRecDepth 20000 in
theorem ggX6_exchanged_X7_bit : GoodIn wsX6_exchanged wsX7_bit := goodIn_r _ [3] (by decide +kernel) (by decide +kernel)
set_option maxRecDepth 20000 in
theorem gX6_exchanged_X7_bit_n40 : GoodIn wsX6_exchanged (wsX7_bit) := ggX6_exchanged_X7_bit
theorem dX6_exchanged_0 : decode cX6_exchanged 0 = .ok (.iload_n 0, 1) := by decide +kernel
theorem dX6_exchanged_1 : decode cX6_exchanged 1 = .ok (.iload_n 1, 1) := by decide +kernel
theorem dX6_exchanged_2 : decode cX6_exchanged 2 = .ok (.invokestatic 40, 3) := by decide +kernel
theorem dX6_exchanged_5 : decode cX6_exchanged 5 = .ok (.iload_n 0, 1) := by decide +kernel
theorem dX6_exchanged_6 : decode cX6_exchanged 6 = .ok (.iload_n 2, 1) := by decide +kernel
theorem dX6_exchanged_7 : decode cX6_exchanged 7 = .ok (.invokestatic 40, 3) := by decide +kernel
theorem dX6_exchanged_10 : decode cX6_exchanged 10 = .ok (.ixor, 1) := by decide +kernel
theorem dX6_exchanged_11 : decode cX6_exchanged 11 = .ok (.istore_n 3, 1) := by decide +kernel
theorem dX6_exchanged_12 : decode cX6_exchanged 12 = .ok (.iload_n 0, 1) := by decide +kernel
theorem dX6_exchanged_13 : decode cX6_exchanged 13 = .ok (.iload_n 3, 1) := by decide +kernel
theorem dX6_exchanged_14 : decode cX6_exchanged 14 = .ok (.iload_n 1, 1) := by decide +kernel
theorem dX6_exchanged_15 : decode cX6_exchanged 15 = .ok (.ishl, 1) := by decide +kernel
theorem dX6_exchanged_16 : decode cX6_exchanged 16 = .ok (.ixor, 1) := by decide +kernel
theorem dX6_exchanged_17 : decode cX6_exchanged 17 = .ok (.iload_n 3, 1) := by decide +kernel
theorem dX6_exchanged_18 : decode cX6_exchanged 18 = .ok (.iload_n 2, 1) := by decide +kernel
theorem dX6_exchanged_19 : decode cX6_exchanged 19 = .ok (.ishl, 1) := by decide +kernel
theorem dX6_exchanged_20 : decode cX6_exchanged 20 = .ok (.ixor, 1) := by decide +kernel
theorem dX6_exchanged_21 : decode cX6_exchanged 21 = .ok (.ireturn, 1) := by decide +kernel
theorem dX6_chances_0 : decode cX6_chances 0 = .ok (.iconst 1, 1) := by decide +kernel
theorem dX6_chances_1 : decode cX6_chances 1 = .ok (.istore_n 1, 1) := by decide +kernel
theorem dX6_chances_2 : decode cX6_chances 2 = .ok (.iconst 0, 1) := by decide +kernel
theorem dX6_chances_3 : decode cX6_chances 3 = .ok (.istore_n 2, 1) := by decide +kernel
theorem dX6_chances_4 : decode cX6_chances 4 = .ok (.iload_n 2, 1) := by decide +kernel
theorem dX6_chances_5 : decode cX6_chances 5 = .ok (.aload_n 0, 1) := by decide +kernel
theorem dX6_chances_6 : decode cX6_chances 6 = .ok (.getfield 9, 3) := by decide +kernel
theorem dX6_chances_9 : decode cX6_chances 9 = .ok (.getfield 83, 3) := by decide +kernel
theorem dX6_chances_12 : decode cX6_chances 12 = .ok (.if_icmp .ge 14, 3) := by decide +kernel
theorem dX6_chances_15 : decode cX6_chances 15 = .ok (.iload_n 1, 1) := by decide +kernel
theorem dX6_chances_16 : decode cX6_chances 16 = .ok (.bipush 10, 2) := by decide +kernel
theorem dX6_chances_18 : decode cX6_chances 18 = .ok (.imul, 1) := by decide +kernel
theorem dX6_chances_19 : decode cX6_chances 19 = .ok (.istore_n 1, 1) := by decide +kernel
theorem dX6_chances_20 : decode cX6_chances 20 = .ok (.iinc 2 1, 3) := by decide +kernel
theorem dX6_chances_23 : decode cX6_chances 23 = .ok (.goto (-19), 3) := by decide +kernel
theorem dX6_chances_26 : decode cX6_chances 26 = .ok (.iload_n 1, 1) := by decide +kernel
theorem dX6_chances_27 : decode cX6_chances 27 = .ok (.ireturn, 1) := by decide +kernel
set_option maxRecDepth 20000 in
theorem ggX6_chancesToPass_X6_yesOf : GoodIn wsX6_chancesToPass wsX6_yesOf := goodIn_r _ [7, 1, 8, 9, 10, 11, 12, 13, 14, 44, 45, 46, 47, 48, 49, 50, 51, 52, 53, 54, 55, 56, 57, 58, 59] (by decide +kernel) (by decide +kernel)
set_option maxRecDepth 20000 in
theorem gX6_chancesToPass_X6_yesOf : GoodIn wsX6_chancesToPass (wsV RX6 67 RX6 yX6_yesOf wsX6_yesOf) := goodIn_app (goodIn_of _ (by decide +kernel)) ggX6_chancesToPass_X6_yesOf
set_option maxRecDepth 20000 in
theorem ggX6_chancesToPass_X6_voicesIfSick : GoodIn wsX6_chancesToPass wsX6_voicesIfSick := goodIn_r _ [18, 19, 20, 21, 6, 22, 1, 8, 23, 10, 24, 25, 26, 27, 28, 29, 30, 12, 13, 14, 44, 45, 46, 47, 48, 49, 50, 51, 52, 53, 54, 55, 56, 57, 58, 59] (by decide +kernel) (by decide +kernel)
set_option maxRecDepth 20000 in
theorem gX6_chancesToPass_X6_voicesIfSick : GoodIn wsX6_chancesToPass (wsV RX6 47 RX6 yX6_voicesIfSick wsX6_voicesIfSick) := goodIn_app (goodIn_of _ (by decide +kernel)) ggX6_chancesToPass_X6_voicesIfSick
set_option maxRecDepth 20000 in
theorem ggX6_chancesToPass_X6_passesBy : GoodIn wsX6_chancesToPass wsX6_passesBy := goodIn_r _ [34, 35, 36, 37, 6, 38, 1, 8, 39, 12, 13, 14, 44, 45, 46, 47, 48, 49, 50, 51, 52] (by decide +kernel) (by decide +kernel)
set_option maxRecDepth 20000 in
theorem gX6_chancesToPass_X6_passesBy : GoodIn wsX6_chancesToPass (wsV RX6 76 RX6 yX6_passesBy wsX6_passesBy) := goodIn_app (goodIn_of _ (by decide +kernel)) ggX6_chancesToPass_X6_passesBy
set_option maxRecDepth 20000 in
theorem ggX6_chancesToPass_X6_chancesOfSick : GoodIn wsX6_chancesToPass wsX6_chancesOfSick := goodIn_r _ [43, 1, 2, 12, 13, 14, 44, 45, 46, 47, 48, 49, 50, 51, 52] (by decide +kernel) (by decide +kernel)
set_option maxRecDepth 20000 in
theorem gX6_chancesToPass_X6_chancesOfSick : GoodIn wsX6_chancesToPass (wsV RX6 105 RX6 yX6_chancesOfSick wsX6_chancesOfSick) := goodIn_app (goodIn_of _ (by decide +kernel)) ggX6_chancesToPass_X6_chancesOfSick
theorem dX6_chancesToPass_0 : decode cX6_chancesToPass 0 = .ok (.aload_n 0, 1) := by decide +kernel
theorem dX6_chancesToPass_1 : decode cX6_chancesToPass 1 = .ok (.iload_n 1, 1) := by decide +kernel
theorem dX6_chancesToPass_2 : decode cX6_chancesToPass 2 = .ok (.invokevirtual 67, 3) := by decide +kernel
theorem dX6_chancesToPass_5 : decode cX6_chancesToPass 5 = .ok (.istore_n 3, 1) := by decide +kernel
theorem dX6_chancesToPass_6 : decode cX6_chancesToPass 6 = .ok (.iconst 0, 1) := by decide +kernel
theorem dX6_chancesToPass_7 : decode cX6_chancesToPass 7 = .ok (.istore 4, 2) := by decide +kernel
theorem dX6_chancesToPass_9 : decode cX6_chancesToPass 9 = .ok (.iconst 0, 1) := by decide +kernel
theorem dX6_chancesToPass_10 : decode cX6_chancesToPass 10 = .ok (.istore 5, 2) := by decide +kernel
theorem dX6_chancesToPass_12 : decode cX6_chancesToPass 12 = .ok (.iload 5, 2) := by decide +kernel
theorem dX6_chancesToPass_14 : decode cX6_chancesToPass 14 = .ok (.iconst 1, 1) := by decide +kernel
theorem dX6_chancesToPass_15 : decode cX6_chancesToPass 15 = .ok (.aload_n 0, 1) := by decide +kernel
theorem dX6_chancesToPass_16 : decode cX6_chancesToPass 16 = .ok (.getfield 9, 3) := by decide +kernel
theorem dX6_chancesToPass_19 : decode cX6_chancesToPass 19 = .ok (.getfield 83, 3) := by decide +kernel
theorem dX6_chancesToPass_22 : decode cX6_chancesToPass 22 = .ok (.ishl, 1) := by decide +kernel
theorem dX6_chancesToPass_23 : decode cX6_chancesToPass 23 = .ok (.if_icmp .ge 35, 3) := by decide +kernel
theorem dX6_chancesToPass_26 : decode cX6_chancesToPass 26 = .ok (.aload_n 0, 1) := by decide +kernel
theorem dX6_chancesToPass_27 : decode cX6_chancesToPass 27 = .ok (.aload_n 0, 1) := by decide +kernel
theorem dX6_chancesToPass_28 : decode cX6_chancesToPass 28 = .ok (.iload 5, 2) := by decide +kernel
theorem dX6_chancesToPass_30 : decode cX6_chancesToPass 30 = .ok (.invokevirtual 47, 3) := by decide +kernel
theorem dX6_chancesToPass_33 : decode cX6_chancesToPass 33 = .ok (.iload_n 3, 1) := by decide +kernel
theorem dX6_chancesToPass_34 : decode cX6_chancesToPass 34 = .ok (.invokevirtual 76, 3) := by decide +kernel
theorem dX6_chancesToPass_37 : decode cX6_chancesToPass 37 = .ok (.ifCond .eq 15, 3) := by decide +kernel
theorem dX6_chancesToPass_40 : decode cX6_chancesToPass 40 = .ok (.iload 4, 2) := by decide +kernel
theorem dX6_chancesToPass_42 : decode cX6_chancesToPass 42 = .ok (.aload_n 0, 1) := by decide +kernel
theorem dX6_chancesToPass_43 : decode cX6_chancesToPass 43 = .ok (.iload 5, 2) := by decide +kernel
theorem dX6_chancesToPass_45 : decode cX6_chancesToPass 45 = .ok (.iload_n 2, 1) := by decide +kernel
theorem dX6_chancesToPass_46 : decode cX6_chancesToPass 46 = .ok (.invokevirtual 105, 3) := by decide +kernel
theorem dX6_chancesToPass_49 : decode cX6_chancesToPass 49 = .ok (.iadd, 1) := by decide +kernel
theorem dX6_chancesToPass_50 : decode cX6_chancesToPass 50 = .ok (.istore 4, 2) := by decide +kernel
theorem dX6_chancesToPass_52 : decode cX6_chancesToPass 52 = .ok (.iinc 5 1, 3) := by decide +kernel
theorem dX6_chancesToPass_55 : decode cX6_chancesToPass 55 = .ok (.goto (-43), 3) := by decide +kernel
theorem dX6_chancesToPass_58 : decode cX6_chancesToPass 58 = .ok (.iload 4, 2) := by decide +kernel
theorem dX6_chancesToPass_60 : decode cX6_chancesToPass 60 = .ok (.ireturn, 1) := by decide +kernel
set_option maxRecDepth 20000 in
theorem ggX6_chancesOfSick_X7_bit : GoodIn wsX6_chancesOfSick wsX7_bit := goodIn_r _ [5] (by decide +kernel) (by decide +kernel)
set_option maxRecDepth 20000 in
theorem gX6_chancesOfSick_X7_bit_n40 : GoodIn wsX6_chancesOfSick (wsX7_bit) := ggX6_chancesOfSick_X7_bit
theorem dX6_chancesOfSick_0 : decode cX6_chancesOfSick 0 = .ok (.iconst 1, 1) := by decide +kernel
theorem dX6_chancesOfSick_1 : decode cX6_chancesOfSick 1 = .ok (.istore_n 3, 1) := by decide +kernel
theorem dX6_chancesOfSick_2 : decode cX6_chancesOfSick 2 = .ok (.iconst 0, 1) := by decide +kernel
theorem dX6_chancesOfSick_3 : decode cX6_chancesOfSick 3 = .ok (.istore 4, 2) := by decide +kernel
theorem dX6_chancesOfSick_5 : decode cX6_chancesOfSick 5 = .ok (.iload 4, 2) := by decide +kernel
theorem dX6_chancesOfSick_7 : decode cX6_chancesOfSick 7 = .ok (.aload_n 0, 1) := by decide +kernel
theorem dX6_chancesOfSick_8 : decode cX6_chancesOfSick 8 = .ok (.getfield 9, 3) := by decide +kernel
theorem dX6_chancesOfSick_11 : decode cX6_chancesOfSick 11 = .ok (.getfield 83, 3) := by decide +kernel
theorem dX6_chancesOfSick_14 : decode cX6_chancesOfSick 14 = .ok (.if_icmp .ge 30, 3) := by decide +kernel
theorem dX6_chancesOfSick_17 : decode cX6_chancesOfSick 17 = .ok (.iload_n 3, 1) := by decide +kernel
theorem dX6_chancesOfSick_18 : decode cX6_chancesOfSick 18 = .ok (.iload_n 1, 1) := by decide +kernel
theorem dX6_chancesOfSick_19 : decode cX6_chancesOfSick 19 = .ok (.iload 4, 2) := by decide +kernel
theorem dX6_chancesOfSick_21 : decode cX6_chancesOfSick 21 = .ok (.invokestatic 40, 3) := by decide +kernel
theorem dX6_chancesOfSick_24 : decode cX6_chancesOfSick 24 = .ok (.iconst 1, 1) := by decide +kernel
theorem dX6_chancesOfSick_25 : decode cX6_chancesOfSick 25 = .ok (.if_icmp .ne 7, 3) := by decide +kernel
theorem dX6_chancesOfSick_28 : decode cX6_chancesOfSick 28 = .ok (.iload_n 2, 1) := by decide +kernel
theorem dX6_chancesOfSick_29 : decode cX6_chancesOfSick 29 = .ok (.goto 7, 3) := by decide +kernel
theorem dX6_chancesOfSick_32 : decode cX6_chancesOfSick 32 = .ok (.bipush 10, 2) := by decide +kernel
theorem dX6_chancesOfSick_34 : decode cX6_chancesOfSick 34 = .ok (.iload_n 2, 1) := by decide +kernel
theorem dX6_chancesOfSick_35 : decode cX6_chancesOfSick 35 = .ok (.isub, 1) := by decide +kernel
theorem dX6_chancesOfSick_36 : decode cX6_chancesOfSick 36 = .ok (.imul, 1) := by decide +kernel
theorem dX6_chancesOfSick_37 : decode cX6_chancesOfSick 37 = .ok (.istore_n 3, 1) := by decide +kernel
theorem dX6_chancesOfSick_38 : decode cX6_chancesOfSick 38 = .ok (.iinc 4 1, 3) := by decide +kernel
theorem dX6_chancesOfSick_41 : decode cX6_chancesOfSick 41 = .ok (.goto (-36), 3) := by decide +kernel
theorem dX6_chancesOfSick_44 : decode cX6_chancesOfSick 44 = .ok (.iload_n 3, 1) := by decide +kernel
theorem dX6_chancesOfSick_45 : decode cX6_chancesOfSick 45 = .ok (.ireturn, 1) := by decide +kernel
set_option maxRecDepth 20000 in
theorem ggX7_init_X0_init : GoodIn wsX7_init wsX0_init := goodIn_r _ [40, 41, 2, 3, 42, 43, 44, 45, 46, 47, 48, 49, 114, 115, 116, 117, 118, 119, 120] (by decide +kernel) (by decide +kernel)
set_option maxRecDepth 20000 in
theorem gX7_init_X0_init_n19 : GoodIn wsX7_init (wsX0_init) := ggX7_init_X0_init
set_option maxRecDepth 20000 in
theorem ggX7_init_X5_init : GoodIn wsX7_init wsX5_init := goodIn_r _ [52, 53, 2, 3, 54, 55, 56, 57, 58, 59, 60, 61, 62, 121, 122, 123, 124, 125, 126, 127, 128, 129] (by decide +kernel) (by decide +kernel)
set_option maxRecDepth 20000 in
theorem gX7_init_X5_init : GoodIn wsX7_init (wsX5_init) := ggX7_init_X5_init
set_option maxRecDepth 20000 in
theorem ggX7_init_X2_init : GoodIn wsX7_init wsX2_init := goodIn_r _ [64, 65, 2, 3, 45, 66, 67, 68, 69, 70, 71, 72, 130, 131, 132, 133, 134, 135, 136] (by decide +kernel) (by decide +kernel)
set_option maxRecDepth 20000 in
theorem gX7_init_X2_init_n38 : GoodIn wsX7_init (wsX2_init) := ggX7_init_X2_init
set_option maxRecDepth 20000 in
theorem ggX7_init_X6_init : GoodIn wsX7_init wsX6_init := goodIn_r _ [75, 76, 2, 3, 77, 78, 137, 138] (by decide +kernel) (by decide +kernel)
set_option maxRecDepth 20000 in
theorem gX7_init_X6_init : GoodIn wsX7_init (wsX6_init) := ggX7_init_X6_init
set_option maxRecDepth 20000 in
theorem ggX7_init_X4_init : GoodIn wsX7_init wsX4_init := goodIn_r _ [81, 82, 2, 3, 83, 139] (by decide +kernel) (by decide +kernel)
set_option maxRecDepth 20000 in
theorem gX7_init_X4_init : GoodIn wsX7_init (wsX4_init) := ggX7_init_X4_init
set_option maxRecDepth 20000 in
theorem ggX7_init_X1_init : GoodIn wsX7_init wsX1_init := goodIn_r _ [86, 87, 2, 3, 45, 88, 89, 90, 91, 92, 140, 141, 142, 143] (by decide +kernel) (by decide +kernel)
set_option maxRecDepth 20000 in
theorem gX7_init_X1_init : GoodIn wsX7_init (wsX1_init) := ggX7_init_X1_init
set_option maxRecDepth 20000 in
theorem ggX7_init_X3_init : GoodIn wsX7_init wsX3_init := goodIn_r _ [95, 96, 2, 3, 97, 98, 99, 100, 17, 18, 63, 64, 65, 45, 66, 67, 68, 69, 70, 71, 72, 144, 145, 146, 130, 131, 132, 133, 134, 135, 136] (by decide +kernel) (by decide +kernel)
set_option maxRecDepth 20000 in
theorem gX7_init_X3_init : GoodIn wsX7_init (wsX3_init) := ggX7_init_X3_init
theorem dX7_init_0 : decode cX7_init 0 = .ok (.aload_n 0, 1) := by decide +kernel
theorem dX7_init_1 : decode cX7_init 1 = .ok (.invokespecial 1, 3) := by decide +kernel
theorem dX7_init_4 : decode cX7_init 4 = .ok (.aload_n 0, 1) := by decide +kernel
theorem dX7_init_5 : decode cX7_init 5 = .ok (.sipush 200, 3) := by decide +kernel
theorem dX7_init_8 : decode cX7_init 8 = .ok (.newarray .char, 2) := by decide +kernel
theorem dX7_init_10 : decode cX7_init 10 = .ok (.putfield 9, 3) := by decide +kernel
theorem dX7_init_13 : decode cX7_init 13 = .ok (.aload_n 0, 1) := by decide +kernel
theorem dX7_init_14 : decode cX7_init 14 = .ok (.iconst 0, 1) := by decide +kernel
theorem dX7_init_15 : decode cX7_init 15 = .ok (.putfield 13, 3) := by decide +kernel
theorem dX7_init_18 : decode cX7_init 18 = .ok (.aload_n 0, 1) := by decide +kernel
theorem dX7_init_19 : decode cX7_init 19 = .ok (.new 17, 3) := by decide +kernel
theorem dX7_init_22 : decode cX7_init 22 = .ok (.dup, 1) := by decide +kernel
theorem dX7_init_23 : decode cX7_init 23 = .ok (.invokespecial 19, 3) := by decide +kernel
theorem dX7_init_26 : decode cX7_init 26 = .ok (.putfield 20, 3) := by decide +kernel
theorem dX7_init_29 : decode cX7_init 29 = .ok (.aload_n 0, 1) := by decide +kernel
theorem dX7_init_30 : decode cX7_init 30 = .ok (.new 17, 3) := by decide +kernel
theorem dX7_init_33 : decode cX7_init 33 = .ok (.dup, 1) := by decide +kernel
theorem dX7_init_34 : decode cX7_init 34 = .ok (.invokespecial 19, 3) := by decide +kernel
theorem dX7_init_37 : decode cX7_init 37 = .ok (.putfield 24, 3) := by decide +kernel
theorem dX7_init_40 : decode cX7_init 40 = .ok (.aload_n 0, 1) := by decide +kernel
theorem dX7_init_41 : decode cX7_init 41 = .ok (.new 27, 3) := by decide +kernel
theorem dX7_init_44 : decode cX7_init 44 = .ok (.dup, 1) := by decide +kernel
theorem dX7_init_45 : decode cX7_init 45 = .ok (.aload_n 0, 1) := by decide +kernel
theorem dX7_init_46 : decode cX7_init 46 = .ok (.getfield 9, 3) := by decide +kernel
theorem dX7_init_49 : decode cX7_init 49 = .ok (.aload_n 0, 1) := by decide +kernel
theorem dX7_init_50 : decode cX7_init 50 = .ok (.getfield 24, 3) := by decide +kernel
theorem dX7_init_53 : decode cX7_init 53 = .ok (.invokespecial 29, 3) := by decide +kernel
theorem dX7_init_56 : decode cX7_init 56 = .ok (.putfield 32, 3) := by decide +kernel
theorem dX7_init_59 : decode cX7_init 59 = .ok (.aload_n 0, 1) := by decide +kernel
theorem dX7_init_60 : decode cX7_init 60 = .ok (.new 36, 3) := by decide +kernel
theorem dX7_init_63 : decode cX7_init 63 = .ok (.dup, 1) := by decide +kernel
theorem dX7_init_64 : decode cX7_init 64 = .ok (.invokespecial 38, 3) := by decide +kernel
theorem dX7_init_67 : decode cX7_init 67 = .ok (.putfield 39, 3) := by decide +kernel
theorem dX7_init_70 : decode cX7_init 70 = .ok (.aload_n 0, 1) := by decide +kernel
theorem dX7_init_71 : decode cX7_init 71 = .ok (.new 43, 3) := by decide +kernel
theorem dX7_init_74 : decode cX7_init 74 = .ok (.dup, 1) := by decide +kernel
theorem dX7_init_75 : decode cX7_init 75 = .ok (.aload_n 0, 1) := by decide +kernel
theorem dX7_init_76 : decode cX7_init 76 = .ok (.getfield 20, 3) := by decide +kernel
theorem dX7_init_79 : decode cX7_init 79 = .ok (.aload_n 0, 1) := by decide +kernel
theorem dX7_init_80 : decode cX7_init 80 = .ok (.getfield 39, 3) := by decide +kernel
theorem dX7_init_83 : decode cX7_init 83 = .ok (.invokespecial 45, 3) := by decide +kernel
theorem dX7_init_86 : decode cX7_init 86 = .ok (.putfield 48, 3) := by decide +kernel
theorem dX7_init_89 : decode cX7_init 89 = .ok (.aload_n 0, 1) := by decide +kernel
theorem dX7_init_90 : decode cX7_init 90 = .ok (.new 52, 3) := by decide +kernel
theorem dX7_init_93 : decode cX7_init 93 = .ok (.dup, 1) := by decide +kernel
theorem dX7_init_94 : decode cX7_init 94 = .ok (.aload_n 0, 1) := by decide +kernel
theorem dX7_init_95 : decode cX7_init 95 = .ok (.getfield 48, 3) := by decide +kernel
theorem dX7_init_98 : decode cX7_init 98 = .ok (.invokespecial 54, 3) := by decide +kernel
theorem dX7_init_101 : decode cX7_init 101 = .ok (.putfield 57, 3) := by decide +kernel
theorem dX7_init_104 : decode cX7_init 104 = .ok (.aload_n 0, 1) := by decide +kernel
theorem dX7_init_105 : decode cX7_init 105 = .ok (.new 61, 3) := by decide +kernel
theorem dX7_init_108 : decode cX7_init 108 = .ok (.dup, 1) := by decide +kernel
theorem dX7_init_109 : decode cX7_init 109 = .ok (.aload_n 0, 1) := by decide +kernel
theorem dX7_init_110 : decode cX7_init 110 = .ok (.getfield 48, 3) := by decide +kernel
theorem dX7_init_113 : decode cX7_init 113 = .ok (.invokespecial 63, 3) := by decide +kernel
theorem dX7_init_116 : decode cX7_init 116 = .ok (.putfield 64, 3) := by decide +kernel
theorem dX7_init_119 : decode cX7_init 119 = .ok (.aload_n 0, 1) := by decide +kernel
theorem dX7_init_120 : decode cX7_init 120 = .ok (.new 68, 3) := by decide +kernel
theorem dX7_init_123 : decode cX7_init 123 = .ok (.dup, 1) := by decide +kernel
theorem dX7_init_124 : decode cX7_init 124 = .ok (.invokespecial 70, 3) := by decide +kernel
theorem dX7_init_127 : decode cX7_init 127 = .ok (.putfield 71, 3) := by decide +kernel
theorem dX7_init_130 : decode cX7_init 130 = .ok (.aload_n 0, 1) := by decide +kernel
theorem dX7_init_131 : decode cX7_init 131 = .ok (.iconst 2, 1) := by decide +kernel
theorem dX7_init_132 : decode cX7_init 132 = .ok (.anewarray 36, 3) := by decide +kernel
theorem dX7_init_135 : decode cX7_init 135 = .ok (.putfield 75, 3) := by decide +kernel
theorem dX7_init_138 : decode cX7_init 138 = .ok (.aload_n 0, 1) := by decide +kernel
theorem dX7_init_139 : decode cX7_init 139 = .ok (.iconst 0, 1) := by decide +kernel
theorem dX7_init_140 : decode cX7_init 140 = .ok (.putfield 79, 3) := by decide +kernel
theorem dX7_init_143 : decode cX7_init 143 = .ok (.aload_n 0, 1) := by decide +kernel
theorem dX7_init_144 : decode cX7_init 144 = .ok (.lconst 0, 1) := by decide +kernel
theorem dX7_init_145 : decode cX7_init 145 = .ok (.putfield 82, 3) := by decide +kernel
theorem dX7_init_148 : decode cX7_init 148 = .ok (.iconst 0, 1) := by decide +kernel
theorem dX7_init_149 : decode cX7_init 149 = .ok (.istore_n 1, 1) := by decide +kernel
theorem dX7_init_150 : decode cX7_init 150 = .ok (.iload_n 1, 1) := by decide +kernel
theorem dX7_init_151 : decode cX7_init 151 = .ok (.iconst 2, 1) := by decide +kernel
theorem dX7_init_152 : decode cX7_init 152 = .ok (.if_icmp .ge 22, 3) := by decide +kernel
theorem dX7_init_155 : decode cX7_init 155 = .ok (.aload_n 0, 1) := by decide +kernel
theorem dX7_init_156 : decode cX7_init 156 = .ok (.getfield 75, 3) := by decide +kernel
theorem dX7_init_159 : decode cX7_init 159 = .ok (.iload_n 1, 1) := by decide +kernel
theorem dX7_init_160 : decode cX7_init 160 = .ok (.new 36, 3) := by decide +kernel
theorem dX7_init_163 : decode cX7_init 163 = .ok (.dup, 1) := by decide +kernel
theorem dX7_init_164 : decode cX7_init 164 = .ok (.invokespecial 38, 3) := by decide +kernel
theorem dX7_init_167 : decode cX7_init 167 = .ok (.aastore, 1) := by decide +kernel
theorem dX7_init_168 : decode cX7_init 168 = .ok (.iinc 1 1, 3) := by decide +kernel
theorem dX7_init_171 : decode cX7_init 171 = .ok (.goto (-21), 3) := by decide +kernel
theorem dX7_init_174 : decode cX7_init 174 = .ok (.return_, 1) := by decide +kernel
theorem dX7_type_0 : decode cX7_type 0 = .ok (.iload_n 1, 1) := by decide +kernel
theorem dX7_type_1 : decode cX7_type 1 = .ok (.ifCond .lt 10, 3) := by decide +kernel
theorem dX7_type_4 : decode cX7_type 4 = .ok (.iload_n 1, 1) := by decide +kernel
theorem dX7_type_5 : decode cX7_type 5 = .ok (.sipush 255, 3) := by decide +kernel
theorem dX7_type_8 : decode cX7_type 8 = .ok (.if_icmp .le 5, 3) := by decide +kernel
theorem dX7_type_11 : decode cX7_type 11 = .ok (.iconst (-1), 1) := by decide +kernel
theorem dX7_type_12 : decode cX7_type 12 = .ok (.ireturn, 1) := by decide +kernel
theorem dX7_type_13 : decode cX7_type 13 = .ok (.aload_n 0, 1) := by decide +kernel
theorem dX7_type_14 : decode cX7_type 14 = .ok (.getfield 13, 3) := by decide +kernel
theorem dX7_type_17 : decode cX7_type 17 = .ok (.sipush 200, 3) := by decide +kernel
theorem dX7_type_20 : decode cX7_type 20 = .ok (.if_icmp .lt 6, 3) := by decide +kernel
theorem dX7_type_23 : decode cX7_type 23 = .ok (.bipush (-3), 2) := by decide +kernel
theorem dX7_type_25 : decode cX7_type 25 = .ok (.ireturn, 1) := by decide +kernel
theorem dX7_type_26 : decode cX7_type 26 = .ok (.aload_n 0, 1) := by decide +kernel
theorem dX7_type_27 : decode cX7_type 27 = .ok (.getfield 9, 3) := by decide +kernel
theorem dX7_type_30 : decode cX7_type 30 = .ok (.aload_n 0, 1) := by decide +kernel
theorem dX7_type_31 : decode cX7_type 31 = .ok (.getfield 13, 3) := by decide +kernel
theorem dX7_type_34 : decode cX7_type 34 = .ok (.iload_n 1, 1) := by decide +kernel
theorem dX7_type_35 : decode cX7_type 35 = .ok (.i2c, 1) := by decide +kernel
theorem dX7_type_36 : decode cX7_type 36 = .ok (.castore, 1) := by decide +kernel
theorem dX7_type_37 : decode cX7_type 37 = .ok (.aload_n 0, 1) := by decide +kernel
theorem dX7_type_38 : decode cX7_type 38 = .ok (.dup, 1) := by decide +kernel
theorem dX7_type_39 : decode cX7_type 39 = .ok (.getfield 13, 3) := by decide +kernel
theorem dX7_type_42 : decode cX7_type 42 = .ok (.iconst 1, 1) := by decide +kernel
theorem dX7_type_43 : decode cX7_type 43 = .ok (.iadd, 1) := by decide +kernel
theorem dX7_type_44 : decode cX7_type 44 = .ok (.putfield 13, 3) := by decide +kernel
theorem dX7_type_47 : decode cX7_type 47 = .ok (.aload_n 0, 1) := by decide +kernel
theorem dX7_type_48 : decode cX7_type 48 = .ok (.getfield 13, 3) := by decide +kernel
theorem dX7_type_51 : decode cX7_type 51 = .ok (.ireturn, 1) := by decide +kernel
theorem dX7_clear_0 : decode cX7_clear 0 = .ok (.aload_n 0, 1) := by decide +kernel
theorem dX7_clear_1 : decode cX7_clear 1 = .ok (.getfield 13, 3) := by decide +kernel
theorem dX7_clear_4 : decode cX7_clear 4 = .ok (.istore_n 1, 1) := by decide +kernel
theorem dX7_clear_5 : decode cX7_clear 5 = .ok (.aload_n 0, 1) := by decide +kernel
theorem dX7_clear_6 : decode cX7_clear 6 = .ok (.iconst 0, 1) := by decide +kernel
theorem dX7_clear_7 : decode cX7_clear 7 = .ok (.putfield 13, 3) := by decide +kernel
theorem dX7_clear_10 : decode cX7_clear 10 = .ok (.iload_n 1, 1) := by decide +kernel
theorem dX7_clear_11 : decode cX7_clear 11 = .ok (.ireturn, 1) := by decide +kernel
set_option maxRecDepth 20000 in
theorem ggX7_council_X5_readText : GoodIn wsX7_council wsX5_readText := goodIn_r _ [13, 14, 15, 16, 17, 18, 12, 19, 20, 21, 22, 23, 24, 25, 26, 27, 28, 29, 30, 31, 32, 33, 34, 35, 36, 37, 38, 39, 40, 41, 42, 43, 44, 45, 46, 47, 48, 49, 50, 51, 52, 53, 54, 55, 56, 57, 58, 59, 60, 61, 62, 63, 64, 65, 66, 67, 68, 69, 70, 71, 72, 73, 74, 75, 76, 77, 78, 79, 80, 81, 82, 83, 84, 136, 137, 138, 139, 140, 141, 142, 143, 144, 145, 146, 147, 148, 149, 150, 151] (by decide +kernel) (by decide +kernel)
set_option maxRecDepth 20000 in
theorem gX7_council_X5_readText : GoodIn wsX7_council (wsV RX7 86 RX5 yX5_readText wsX5_readText) := goodIn_app (goodIn_of _ (by decide +kernel)) ggX7_council_X5_readText
set_option maxRecDepth 20000 in
theorem ggX7_council_X0_copyFrom : GoodIn wsX7_council wsX0_copyFrom := goodIn_r _ [88, 34, 35, 36, 72, 89, 90, 91, 92, 73, 74, 75, 145, 146, 147, 148, 149, 150, 151] (by decide +kernel) (by decide +kernel)
set_option maxRecDepth 20000 in
theorem gX7_council_X0_copyFrom : GoodIn wsX7_council (wsV RX7 90 RX0 yX0_copyFrom wsX0_copyFrom) := goodIn_app (goodIn_of _ (by decide +kernel)) ggX7_council_X0_copyFrom
set_option maxRecDepth 20000 in
theorem ggX7_council_X2_beginWith : GoodIn wsX7_council wsX2_beginWith := goodIn_r _ [97, 98, 99, 100, 90, 91, 92, 101, 102, 103, 104, 105, 106, 107, 108, 109, 110, 145, 146, 147, 148, 149, 150, 151, 152, 153, 154, 155, 156, 157, 158] (by decide +kernel) (by decide +kernel)
set_option maxRecDepth 20000 in
theorem gX7_council_X2_beginWith : GoodIn wsX7_council (wsV RX7 94 RX2 yX2_beginWith wsX2_beginWith) := goodIn_app (goodIn_of _ (by decide +kernel)) ggX7_council_X2_beginWith
set_option maxRecDepth 20000 in
theorem ggX7_council_X1_tearUp : GoodIn wsX7_council wsX1_tearUp := goodIn_r _ [115, 116, 159, 160, 161, 162] (by decide +kernel) (by decide +kernel)
set_option maxRecDepth 20000 in
theorem gX7_council_X1_tearUp : GoodIn wsX7_council (wsV RX7 97 RX1 yX1_tearUp wsX1_tearUp) := goodIn_app (goodIn_of _ (by decide +kernel)) ggX7_council_X1_tearUp
set_option maxRecDepth 20000 in
theorem ggX7_council_X3_lose : GoodIn wsX7_council wsX3_lose := goodIn_r _ [121, 122, 163, 164, 165] (by decide +kernel) (by decide +kernel)
set_option maxRecDepth 20000 in
theorem gX7_council_X3_lose : GoodIn wsX7_council (wsV RX7 100 RX3 yX3_lose wsX3_lose) := goodIn_app (goodIn_of _ (by decide +kernel)) ggX7_council_X3_lose
theorem dX7_council_0 : decode cX7_council 0 = .ok (.aload_n 0, 1) := by decide +kernel
theorem dX7_council_1 : decode cX7_council 1 = .ok (.getfield 32, 3) := by decide +kernel
theorem dX7_council_4 : decode cX7_council 4 = .ok (.aload_n 0, 1) := by decide +kernel
theorem dX7_council_5 : decode cX7_council 5 = .ok (.getfield 13, 3) := by decide +kernel
theorem dX7_council_8 : decode cX7_council 8 = .ok (.invokevirtual 86, 3) := by decide +kernel
theorem dX7_council_11 : decode cX7_council 11 = .ok (.istore_n 1, 1) := by decide +kernel
theorem dX7_council_12 : decode cX7_council 12 = .ok (.iload_n 1, 1) := by decide +kernel
theorem dX7_council_13 : decode cX7_council 13 = .ok (.ifCond .ge 5, 3) := by decide +kernel
theorem dX7_council_16 : decode cX7_council 16 = .ok (.iload_n 1, 1) := by decide +kernel
theorem dX7_council_17 : decode cX7_council 17 = .ok (.ireturn, 1) := by decide +kernel
theorem dX7_council_18 : decode cX7_council 18 = .ok (.aload_n 0, 1) := by decide +kernel
theorem dX7_council_19 : decode cX7_council 19 = .ok (.getfield 20, 3) := by decide +kernel
theorem dX7_council_22 : decode cX7_council 22 = .ok (.aload_n 0, 1) := by decide +kernel
theorem dX7_council_23 : decode cX7_council 23 = .ok (.getfield 24, 3) := by decide +kernel
theorem dX7_council_26 : decode cX7_council 26 = .ok (.invokevirtual 90, 3) := by decide +kernel
theorem dX7_council_29 : decode cX7_council 29 = .ok (.aload_n 0, 1) := by decide +kernel
theorem dX7_council_30 : decode cX7_council 30 = .ok (.getfield 39, 3) := by decide +kernel
theorem dX7_council_33 : decode cX7_council 33 = .ok (.aload_n 0, 1) := by decide +kernel
theorem dX7_council_34 : decode cX7_council 34 = .ok (.getfield 20, 3) := by decide +kernel
theorem dX7_council_37 : decode cX7_council 37 = .ok (.invokevirtual 94, 3) := by decide +kernel
theorem dX7_council_40 : decode cX7_council 40 = .ok (.aload_n 0, 1) := by decide +kernel
theorem dX7_council_41 : decode cX7_council 41 = .ok (.getfield 64, 3) := by decide +kernel
theorem dX7_council_44 : decode cX7_council 44 = .ok (.invokevirtual 97, 3) := by decide +kernel
theorem dX7_council_47 : decode cX7_council 47 = .ok (.aload_n 0, 1) := by decide +kernel
theorem dX7_council_48 : decode cX7_council 48 = .ok (.getfield 71, 3) := by decide +kernel
theorem dX7_council_51 : decode cX7_council 51 = .ok (.invokevirtual 100, 3) := by decide +kernel
theorem dX7_council_54 : decode cX7_council 54 = .ok (.aload_n 0, 1) := by decide +kernel
theorem dX7_council_55 : decode cX7_council 55 = .ok (.iconst 0, 1) := by decide +kernel
theorem dX7_council_56 : decode cX7_council 56 = .ok (.putfield 79, 3) := by decide +kernel
theorem dX7_council_59 : decode cX7_council 59 = .ok (.aload_n 0, 1) := by decide +kernel
theorem dX7_council_60 : decode cX7_council 60 = .ok (.iconst 0, 1) := by decide +kernel
theorem dX7_council_61 : decode cX7_council 61 = .ok (.putfield 13, 3) := by decide +kernel
theorem dX7_council_64 : decode cX7_council 64 = .ok (.iload_n 1, 1) := by decide +kernel
theorem dX7_council_65 : decode cX7_council 65 = .ok (.ireturn, 1) := by decide +kernel
set_option maxRecDepth 20000 in
theorem ggX7_thing_X7_noThing : GoodIn wsX7_thing wsX7_noThing := goodIn_r _ [15, 1, 16, 45, 46, 47, 48, 49, 50, 51, 52, 53, 54, 55, 56, 57, 58, 59, 60, 61, 62, 63, 64] (by decide +kernel) (by decide +kernel)
set_option maxRecDepth 20000 in
theorem gX7_thing_X7_noThing : GoodIn wsX7_thing (wsV RX7 103 RX7 yX7_noThing wsX7_noThing) := goodIn_app (goodIn_of _ (by decide +kernel)) ggX7_thing_X7_noThing
set_option maxRecDepth 20000 in
theorem ggX7_thing_X7_bit : GoodIn wsX7_thing wsX7_bit := goodIn_r _ [19] (by decide +kernel) (by decide +kernel)
set_option maxRecDepth 20000 in
theorem gX7_thing_X7_bit : GoodIn wsX7_thing (va_wsS RX7 123 yX7_bit wsX7_bit) := goodIn_app (goodIn_of _ (by decide +kernel)) ggX7_thing_X7_bit
set_option maxRecDepth 20000 in
theorem ggX7_thing_X6_voices : GoodIn wsX7_thing wsX6_voices := goodIn_r _ [24, 25, 26, 27, 28, 29, 23, 30, 31, 32, 33, 34, 35, 36, 37, 38, 39, 40, 41, 42, 43, 44, 18, 14, 19, 72, 73, 65, 66, 67, 68, 69, 70, 71, 58, 59, 60, 61, 62, 63, 64] (by decide +kernel) (by decide +kernel)
set_option maxRecDepth 20000 in
theorem gX7_thing_X6_voices : GoodIn wsX7_thing (wsV RX7 133 RX6 yX6_voices wsX6_voices) := goodIn_app (goodIn_of _ (by decide +kernel)) ggX7_thing_X6_voices
theorem dX7_thing_0 : decode cX7_thing 0 = .ok (.aload_n 0, 1) := by decide +kernel
theorem dX7_thing_1 : decode cX7_thing 1 = .ok (.iload_n 1, 1) := by decide +kernel
theorem dX7_thing_2 : decode cX7_thing 2 = .ok (.invokevirtual 103, 3) := by decide +kernel
theorem dX7_thing_5 : decode cX7_thing 5 = .ok (.ifCond .eq 5, 3) := by decide +kernel
theorem dX7_thing_8 : decode cX7_thing 8 = .ok (.iconst (-1), 1) := by decide +kernel
theorem dX7_thing_9 : decode cX7_thing 9 = .ok (.ireturn, 1) := by decide +kernel
theorem dX7_thing_10 : decode cX7_thing 10 = .ok (.iload_n 2, 1) := by decide +kernel
theorem dX7_thing_11 : decode cX7_thing 11 = .ok (.tableswitch 131 0 7 #[45, 55, 65, 75, 85, 97, 109, 119], 45) := by decide +kernel
theorem dX7_thing_56 : decode cX7_thing 56 = .ok (.aload_n 0, 1) := by decide +kernel
theorem dX7_thing_57 : decode cX7_thing 57 = .ok (.getfield 20, 3) := by decide +kernel
theorem dX7_thing_60 : decode cX7_thing 60 = .ok (.getfield 107, 3) := by decide +kernel
theorem dX7_thing_63 : decode cX7_thing 63 = .ok (.iload_n 1, 1) := by decide +kernel
theorem dX7_thing_64 : decode cX7_thing 64 = .ok (.iaload, 1) := by decide +kernel
theorem dX7_thing_65 : decode cX7_thing 65 = .ok (.ireturn, 1) := by decide +kernel
theorem dX7_thing_66 : decode cX7_thing 66 = .ok (.aload_n 0, 1) := by decide +kernel
theorem dX7_thing_67 : decode cX7_thing 67 = .ok (.getfield 20, 3) := by decide +kernel
theorem dX7_thing_70 : decode cX7_thing 70 = .ok (.getfield 111, 3) := by decide +kernel
theorem dX7_thing_73 : decode cX7_thing 73 = .ok (.iload_n 1, 1) := by decide +kernel
theorem dX7_thing_74 : decode cX7_thing 74 = .ok (.iaload, 1) := by decide +kernel
theorem dX7_thing_75 : decode cX7_thing 75 = .ok (.ireturn, 1) := by decide +kernel
theorem dX7_thing_76 : decode cX7_thing 76 = .ok (.aload_n 0, 1) := by decide +kernel
theorem dX7_thing_77 : decode cX7_thing 77 = .ok (.getfield 20, 3) := by decide +kernel
theorem dX7_thing_80 : decode cX7_thing 80 = .ok (.getfield 114, 3) := by decide +kernel
theorem dX7_thing_83 : decode cX7_thing 83 = .ok (.iload_n 1, 1) := by decide +kernel
theorem dX7_thing_84 : decode cX7_thing 84 = .ok (.iaload, 1) := by decide +kernel
theorem dX7_thing_85 : decode cX7_thing 85 = .ok (.ireturn, 1) := by decide +kernel
theorem dX7_thing_86 : decode cX7_thing 86 = .ok (.aload_n 0, 1) := by decide +kernel
theorem dX7_thing_87 : decode cX7_thing 87 = .ok (.getfield 39, 3) := by decide +kernel
theorem dX7_thing_90 : decode cX7_thing 90 = .ok (.getfield 117, 3) := by decide +kernel
theorem dX7_thing_93 : decode cX7_thing 93 = .ok (.iload_n 1, 1) := by decide +kernel
theorem dX7_thing_94 : decode cX7_thing 94 = .ok (.iaload, 1) := by decide +kernel
theorem dX7_thing_95 : decode cX7_thing 95 = .ok (.ireturn, 1) := by decide +kernel
theorem dX7_thing_96 : decode cX7_thing 96 = .ok (.aload_n 0, 1) := by decide +kernel
theorem dX7_thing_97 : decode cX7_thing 97 = .ok (.getfield 39, 3) := by decide +kernel
theorem dX7_thing_100 : decode cX7_thing 100 = .ok (.getfield 120, 3) := by decide +kernel
theorem dX7_thing_103 : decode cX7_thing 103 = .ok (.iload_n 1, 1) := by decide +kernel
theorem dX7_thing_104 : decode cX7_thing 104 = .ok (.invokestatic 123, 3) := by decide +kernel
theorem dX7_thing_107 : decode cX7_thing 107 = .ok (.ireturn, 1) := by decide +kernel
theorem dX7_thing_108 : decode cX7_thing 108 = .ok (.aload_n 0, 1) := by decide +kernel
theorem dX7_thing_109 : decode cX7_thing 109 = .ok (.getfield 39, 3) := by decide +kernel
theorem dX7_thing_112 : decode cX7_thing 112 = .ok (.getfield 127, 3) := by decide +kernel
theorem dX7_thing_115 : decode cX7_thing 115 = .ok (.iload_n 1, 1) := by decide +kernel
theorem dX7_thing_116 : decode cX7_thing 116 = .ok (.invokestatic 123, 3) := by decide +kernel
theorem dX7_thing_119 : decode cX7_thing 119 = .ok (.ireturn, 1) := by decide +kernel
theorem dX7_thing_120 : decode cX7_thing 120 = .ok (.aload_n 0, 1) := by decide +kernel
theorem dX7_thing_121 : decode cX7_thing 121 = .ok (.getfield 39, 3) := by decide +kernel
theorem dX7_thing_124 : decode cX7_thing 124 = .ok (.getfield 130, 3) := by decide +kernel
theorem dX7_thing_127 : decode cX7_thing 127 = .ok (.iload_n 1, 1) := by decide +kernel
theorem dX7_thing_128 : decode cX7_thing 128 = .ok (.iaload, 1) := by decide +kernel
theorem dX7_thing_129 : decode cX7_thing 129 = .ok (.ireturn, 1) := by decide +kernel
theorem dX7_thing_130 : decode cX7_thing 130 = .ok (.aload_n 0, 1) := by decide +kernel
theorem dX7_thing_131 : decode cX7_thing 131 = .ok (.getfield 48, 3) := by decide +kernel
theorem dX7_thing_134 : decode cX7_thing 134 = .ok (.invokevirtual 133, 3) := by decide +kernel
theorem dX7_thing_137 : decode cX7_thing 137 = .ok (.iload_n 1, 1) := by decide +kernel
theorem dX7_thing_138 : decode cX7_thing 138 = .ok (.invokestatic 123, 3) := by decide +kernel
theorem dX7_thing_141 : decode cX7_thing 141 = .ok (.ireturn, 1) := by decide +kernel
theorem dX7_thing_142 : decode cX7_thing 142 = .ok (.iconst (-1), 1) := by decide +kernel
theorem dX7_thing_143 : decode cX7_thing 143 = .ok (.ireturn, 1) := by decide +kernel
set_option maxRecDepth 20000 in
theorem ggX7_officer_X7_noOfficer : GoodIn wsX7_officer wsX7_noOfficer := goodIn_r _ [8, 9, 10, 49, 50, 51, 52, 53, 54, 55, 56, 57, 58, 59, 60, 61, 69, 70, 71, 72, 73, 74, 75] (by decide +kernel) (by decide +kernel)
set_option maxRecDepth 20000 in
theorem gX7_officer_X7_noOfficer : GoodIn wsX7_officer (wsV RX7 137 RX7 yX7_noOfficer wsX7_noOfficer) := goodIn_app (goodIn_of _ (by decide +kernel)) ggX7_officer_X7_noOfficer
set_option maxRecDepth 20000 in
theorem ggX7_officer_X7_bit : GoodIn wsX7_officer wsX7_bit := goodIn_r _ [13] (by decide +kernel) (by decide +kernel)
set_option maxRecDepth 20000 in
theorem gX7_officer_X7_bit : GoodIn wsX7_officer (va_wsS RX7 123 yX7_bit wsX7_bit) := goodIn_app (goodIn_of _ (by decide +kernel)) ggX7_officer_X7_bit
set_option maxRecDepth 20000 in
theorem ggX7_officer_X6_heldBy : GoodIn wsX7_officer wsX6_heldBy := goodIn_r _ [18, 19, 20, 21, 22, 12, 7, 13, 76, 77, 69, 70, 71, 72, 73, 74, 75, 62, 63, 64, 65, 66, 67, 68] (by decide +kernel) (by decide +kernel)
set_option maxRecDepth 20000 in
theorem gX7_officer_X6_heldBy : GoodIn wsX7_officer (wsV RX7 143 RX6 yX6_heldBy wsX6_heldBy) := goodIn_app (goodIn_of _ (by decide +kernel)) ggX7_officer_X6_heldBy
set_option maxRecDepth 20000 in
theorem ggX7_officer_X6_votesHeldBy : GoodIn wsX7_officer wsX6_votesHeldBy := goodIn_r _ [26, 27, 28, 29, 17, 30, 21, 31, 32, 33, 34, 35, 36, 37, 38, 39, 19, 20, 40, 41, 42, 43, 15, 16, 18, 22, 12, 7, 13, 44, 45, 46, 47, 48, 76, 77, 62, 63, 64, 65, 66, 67, 68, 69, 70, 71, 72, 73, 74, 75] (by decide +kernel) (by decide +kernel)
set_option maxRecDepth 20000 in
theorem gX7_officer_X6_votesHeldBy : GoodIn wsX7_officer (wsV RX7 146 RX6 yX6_votesHeldBy wsX6_votesHeldBy) := goodIn_app (goodIn_of _ (by decide +kernel)) ggX7_officer_X6_votesHeldBy
theorem dX7_officer_0 : decode cX7_officer 0 = .ok (.aload_n 0, 1) := by decide +kernel
theorem dX7_officer_1 : decode cX7_officer 1 = .ok (.iload_n 1, 1) := by decide +kernel
theorem dX7_officer_2 : decode cX7_officer 2 = .ok (.invokevirtual 137, 3) := by decide +kernel
theorem dX7_officer_5 : decode cX7_officer 5 = .ok (.ifCond .eq 5, 3) := by decide +kernel
theorem dX7_officer_8 : decode cX7_officer 8 = .ok (.iconst (-1), 1) := by decide +kernel
theorem dX7_officer_9 : decode cX7_officer 9 = .ok (.ireturn, 1) := by decide +kernel
theorem dX7_officer_10 : decode cX7_officer 10 = .ok (.iload_n 2, 1) := by decide +kernel
theorem dX7_officer_11 : decode cX7_officer 11 = .ok (.tableswitch 57 0 2 #[25, 37, 48], 25) := by decide +kernel
theorem dX7_officer_36 : decode cX7_officer 36 = .ok (.aload_n 0, 1) := by decide +kernel
theorem dX7_officer_37 : decode cX7_officer 37 = .ok (.getfield 39, 3) := by decide +kernel
theorem dX7_officer_40 : decode cX7_officer 40 = .ok (.getfield 140, 3) := by decide +kernel
theorem dX7_officer_43 : decode cX7_officer 43 = .ok (.iload_n 1, 1) := by decide +kernel
theorem dX7_officer_44 : decode cX7_officer 44 = .ok (.invokestatic 123, 3) := by decide +kernel
theorem dX7_officer_47 : decode cX7_officer 47 = .ok (.ireturn, 1) := by decide +kernel
theorem dX7_officer_48 : decode cX7_officer 48 = .ok (.aload_n 0, 1) := by decide +kernel
theorem dX7_officer_49 : decode cX7_officer 49 = .ok (.getfield 48, 3) := by decide +kernel
theorem dX7_officer_52 : decode cX7_officer 52 = .ok (.iconst 1, 1) := by decide +kernel
theorem dX7_officer_53 : decode cX7_officer 53 = .ok (.iload_n 1, 1) := by decide +kernel
theorem dX7_officer_54 : decode cX7_officer 54 = .ok (.ishl, 1) := by decide +kernel
theorem dX7_officer_55 : decode cX7_officer 55 = .ok (.invokevirtual 143, 3) := by decide +kernel
theorem dX7_officer_58 : decode cX7_officer 58 = .ok (.ireturn, 1) := by decide +kernel
theorem dX7_officer_59 : decode cX7_officer 59 = .ok (.aload_n 0, 1) := by decide +kernel
theorem dX7_officer_60 : decode cX7_officer 60 = .ok (.getfield 48, 3) := by decide +kernel
theorem dX7_officer_63 : decode cX7_officer 63 = .ok (.iload_n 1, 1) := by decide +kernel
theorem dX7_officer_64 : decode cX7_officer 64 = .ok (.invokevirtual 146, 3) := by decide +kernel
theorem dX7_officer_67 : decode cX7_officer 67 = .ok (.ireturn, 1) := by decide +kernel
theorem dX7_officer_68 : decode cX7_officer 68 = .ok (.iconst (-1), 1) := by decide +kernel
theorem dX7_officer_69 : decode cX7_officer 69 = .ok (.ireturn, 1) := by decide +kernel
set_option maxRecDepth 20000 in
theorem ggX7_bill_X7_noBill : GoodIn wsX7_bill wsX7_noBill := goodIn_r _ [5] (by decide +kernel) (by decide +kernel)
set_option maxRecDepth 20000 in
theorem gX7_bill_X7_noBill : GoodIn wsX7_bill (va_wsS RX7 149 yX7_noBill wsX7_noBill) := goodIn_app (goodIn_of _ (by decide +kernel)) ggX7_bill_X7_noBill
set_option maxRecDepth 20000 in
theorem ggX7_bill_X6_voices : GoodIn wsX7_bill wsX6_voices := goodIn_r _ [10, 11, 12, 13, 14, 15, 9, 16, 17, 18, 19, 20, 21, 22, 23, 24, 25, 26, 27, 28, 29, 30, 31, 4, 32, 62, 63, 64, 65, 66, 67, 68, 69, 70, 71, 72, 73, 74, 75, 76, 77] (by decide +kernel) (by decide +kernel)
set_option maxRecDepth 20000 in
theorem gX7_bill_X6_voices : GoodIn wsX7_bill (wsV RX7 133 RX6 yX6_voices wsX6_voices) := goodIn_app (goodIn_of _ (by decide +kernel)) ggX7_bill_X6_voices
set_option maxRecDepth 20000 in
theorem ggX7_bill_X6_yesOf : GoodIn wsX7_bill wsX6_yesOf := goodIn_r _ [36, 21, 22, 37, 11, 38, 31, 4, 32, 62, 63, 71, 72, 73, 74, 75, 76, 77, 64, 65, 66, 67, 68, 69, 70] (by decide +kernel) (by decide +kernel)
set_option maxRecDepth 20000 in
theorem gX7_bill_X6_yesOf : GoodIn wsX7_bill (wsV RX7 152 RX6 yX6_yesOf wsX6_yesOf) := goodIn_app (goodIn_of _ (by decide +kernel)) ggX7_bill_X6_yesOf
set_option maxRecDepth 20000 in
theorem ggX7_bill_X6_votesOf : GoodIn wsX7_bill wsX6_votesOf := goodIn_r _ [42, 21, 22, 43, 31, 4, 32, 62, 63, 71, 72, 73, 74, 75, 76, 77] (by decide +kernel) (by decide +kernel)
set_option maxRecDepth 20000 in
theorem gX7_bill_X6_votesOf : GoodIn wsX7_bill (wsV RX7 155 RX6 yX6_votesOf wsX6_votesOf) := goodIn_app (goodIn_of _ (by decide +kernel)) ggX7_bill_X6_votesOf
set_option maxRecDepth 20000 in
theorem ggX7_bill_X6_passesBy : GoodIn wsX7_bill wsX6_passesBy := goodIn_r _ [47, 48, 40, 41, 9, 42, 21, 22, 43, 31, 4, 32, 62, 63, 71, 72, 73, 74, 75, 76, 77] (by decide +kernel) (by decide +kernel)
set_option maxRecDepth 20000 in
theorem gX7_bill_X6_passesBy : GoodIn wsX7_bill (wsV RX7 158 RX6 yX6_passesBy wsX6_passesBy) := goodIn_app (goodIn_of _ (by decide +kernel)) ggX7_bill_X6_passesBy
theorem dX7_bill_0 : decode cX7_bill 0 = .ok (.iload_n 1, 1) := by decide +kernel
theorem dX7_bill_1 : decode cX7_bill 1 = .ok (.invokestatic 149, 3) := by decide +kernel
theorem dX7_bill_4 : decode cX7_bill 4 = .ok (.ifCond .eq 5, 3) := by decide +kernel
theorem dX7_bill_7 : decode cX7_bill 7 = .ok (.iconst (-1), 1) := by decide +kernel
theorem dX7_bill_8 : decode cX7_bill 8 = .ok (.ireturn, 1) := by decide +kernel
theorem dX7_bill_9 : decode cX7_bill 9 = .ok (.aload_n 0, 1) := by decide +kernel
theorem dX7_bill_10 : decode cX7_bill 10 = .ok (.getfield 48, 3) := by decide +kernel
theorem dX7_bill_13 : decode cX7_bill 13 = .ok (.invokevirtual 133, 3) := by decide +kernel
theorem dX7_bill_16 : decode cX7_bill 16 = .ok (.istore_n 3, 1) := by decide +kernel
theorem dX7_bill_17 : decode cX7_bill 17 = .ok (.aload_n 0, 1) := by decide +kernel
theorem dX7_bill_18 : decode cX7_bill 18 = .ok (.getfield 48, 3) := by decide +kernel
theorem dX7_bill_21 : decode cX7_bill 21 = .ok (.iload_n 1, 1) := by decide +kernel
theorem dX7_bill_22 : decode cX7_bill 22 = .ok (.invokevirtual 152, 3) := by decide +kernel
theorem dX7_bill_25 : decode cX7_bill 25 = .ok (.istore 4, 2) := by decide +kernel
theorem dX7_bill_27 : decode cX7_bill 27 = .ok (.iload_n 2, 1) := by decide +kernel
theorem dX7_bill_28 : decode cX7_bill 28 = .ok (.tableswitch 82 0 3 #[32, 44, 58, 77], 32) := by decide +kernel
theorem dX7_bill_60 : decode cX7_bill 60 = .ok (.aload_n 0, 1) := by decide +kernel
theorem dX7_bill_61 : decode cX7_bill 61 = .ok (.getfield 48, 3) := by decide +kernel
theorem dX7_bill_64 : decode cX7_bill 64 = .ok (.iload_n 3, 1) := by decide +kernel
theorem dX7_bill_65 : decode cX7_bill 65 = .ok (.iload 4, 2) := by decide +kernel
theorem dX7_bill_67 : decode cX7_bill 67 = .ok (.iand, 1) := by decide +kernel
theorem dX7_bill_68 : decode cX7_bill 68 = .ok (.invokevirtual 155, 3) := by decide +kernel
theorem dX7_bill_71 : decode cX7_bill 71 = .ok (.ireturn, 1) := by decide +kernel
theorem dX7_bill_72 : decode cX7_bill 72 = .ok (.aload_n 0, 1) := by decide +kernel
theorem dX7_bill_73 : decode cX7_bill 73 = .ok (.getfield 48, 3) := by decide +kernel
theorem dX7_bill_76 : decode cX7_bill 76 = .ok (.iload_n 3, 1) := by decide +kernel
theorem dX7_bill_77 : decode cX7_bill 77 = .ok (.iload 4, 2) := by decide +kernel
theorem dX7_bill_79 : decode cX7_bill 79 = .ok (.iconst (-1), 1) := by decide +kernel
theorem dX7_bill_80 : decode cX7_bill 80 = .ok (.ixor, 1) := by decide +kernel
theorem dX7_bill_81 : decode cX7_bill 81 = .ok (.iand, 1) := by decide +kernel
theorem dX7_bill_82 : decode cX7_bill 82 = .ok (.invokevirtual 155, 3) := by decide +kernel
theorem dX7_bill_85 : decode cX7_bill 85 = .ok (.ireturn, 1) := by decide +kernel
theorem dX7_bill_86 : decode cX7_bill 86 = .ok (.aload_n 0, 1) := by decide +kernel
theorem dX7_bill_87 : decode cX7_bill 87 = .ok (.getfield 48, 3) := by decide +kernel
theorem dX7_bill_90 : decode cX7_bill 90 = .ok (.iload_n 3, 1) := by decide +kernel
theorem dX7_bill_91 : decode cX7_bill 91 = .ok (.iload 4, 2) := by decide +kernel
theorem dX7_bill_93 : decode cX7_bill 93 = .ok (.invokevirtual 158, 3) := by decide +kernel
theorem dX7_bill_96 : decode cX7_bill 96 = .ok (.ifCond .eq 7, 3) := by decide +kernel
theorem dX7_bill_99 : decode cX7_bill 99 = .ok (.iconst 1, 1) := by decide +kernel
theorem dX7_bill_100 : decode cX7_bill 100 = .ok (.goto 4, 3) := by decide +kernel
theorem dX7_bill_103 : decode cX7_bill 103 = .ok (.iconst 0, 1) := by decide +kernel
theorem dX7_bill_104 : decode cX7_bill 104 = .ok (.ireturn, 1) := by decide +kernel
theorem dX7_bill_105 : decode cX7_bill 105 = .ok (.iload_n 3, 1) := by decide +kernel
theorem dX7_bill_106 : decode cX7_bill 106 = .ok (.iload 4, 2) := by decide +kernel
theorem dX7_bill_108 : decode cX7_bill 108 = .ok (.iand, 1) := by decide +kernel
theorem dX7_bill_109 : decode cX7_bill 109 = .ok (.ireturn, 1) := by decide +kernel
theorem dX7_bill_110 : decode cX7_bill 110 = .ok (.iconst (-1), 1) := by decide +kernel
theorem dX7_bill_111 : decode cX7_bill 111 = .ok (.ireturn, 1) := by decide +kernel
set_option maxRecDepth 20000 in
theorem ggX7_now_X6_voices : GoodIn wsX7_now wsX6_voices := goodIn_r _ [12, 13, 14, 15, 16, 17, 11, 18, 19, 20, 21, 22, 23, 24, 25, 26, 27, 28, 29, 30, 31, 32, 33, 34, 35, 74, 75, 64, 65, 66, 67, 68, 69, 70, 76, 77, 78, 79, 80, 81, 82] (by decide +kernel) (by decide +kernel)
set_option maxRecDepth 20000 in
theorem gX7_now_X6_voices : GoodIn wsX7_now (wsV RX7 133 RX6 yX6_voices wsX6_voices) := goodIn_app (goodIn_of _ (by decide +kernel)) ggX7_now_X6_voices
set_option maxRecDepth 20000 in
theorem ggX7_now_X6_mostHolder : GoodIn wsX7_now wsX6_mostHolder := goodIn_r _ [39, 23, 40, 41, 42, 43, 11, 44, 45, 9, 10, 12, 13, 14, 15, 16, 17, 18, 19, 20, 21, 22, 24, 25, 26, 27, 28, 29, 30, 31, 32, 33, 34, 35, 46, 47, 48, 49, 50, 74, 75, 76, 77, 78, 79, 80, 81, 82, 64, 65, 66, 67, 68, 69, 70] (by decide +kernel) (by decide +kernel)
set_option maxRecDepth 20000 in
theorem gX7_now_X6_mostHolder : GoodIn wsX7_now (wsV RX7 168 RX6 yX6_mostHolder wsX6_mostHolder) := goodIn_app (goodIn_of _ (by decide +kernel)) ggX7_now_X6_mostHolder
theorem dX7_now_0 : decode cX7_now 0 = .ok (.iload_n 1, 1) := by decide +kernel
theorem dX7_now_1 : decode cX7_now 1 = .ok (.tableswitch 87 0 5 #[39, 47, 55, 63, 71, 79], 39) := by decide +kernel
theorem dX7_now_40 : decode cX7_now 40 = .ok (.aload_n 0, 1) := by decide +kernel
theorem dX7_now_41 : decode cX7_now 41 = .ok (.getfield 39, 3) := by decide +kernel
theorem dX7_now_44 : decode cX7_now 44 = .ok (.getfield 162, 3) := by decide +kernel
theorem dX7_now_47 : decode cX7_now 47 = .ok (.ireturn, 1) := by decide +kernel
theorem dX7_now_48 : decode cX7_now 48 = .ok (.aload_n 0, 1) := by decide +kernel
theorem dX7_now_49 : decode cX7_now 49 = .ok (.getfield 39, 3) := by decide +kernel
theorem dX7_now_52 : decode cX7_now 52 = .ok (.getfield 165, 3) := by decide +kernel
theorem dX7_now_55 : decode cX7_now 55 = .ok (.ireturn, 1) := by decide +kernel
theorem dX7_now_56 : decode cX7_now 56 = .ok (.aload_n 0, 1) := by decide +kernel
theorem dX7_now_57 : decode cX7_now 57 = .ok (.getfield 48, 3) := by decide +kernel
theorem dX7_now_60 : decode cX7_now 60 = .ok (.invokevirtual 133, 3) := by decide +kernel
theorem dX7_now_63 : decode cX7_now 63 = .ok (.ireturn, 1) := by decide +kernel
theorem dX7_now_64 : decode cX7_now 64 = .ok (.aload_n 0, 1) := by decide +kernel
theorem dX7_now_65 : decode cX7_now 65 = .ok (.getfield 39, 3) := by decide +kernel
theorem dX7_now_68 : decode cX7_now 68 = .ok (.getfield 140, 3) := by decide +kernel
theorem dX7_now_71 : decode cX7_now 71 = .ok (.ireturn, 1) := by decide +kernel
theorem dX7_now_72 : decode cX7_now 72 = .ok (.aload_n 0, 1) := by decide +kernel
theorem dX7_now_73 : decode cX7_now 73 = .ok (.getfield 48, 3) := by decide +kernel
theorem dX7_now_76 : decode cX7_now 76 = .ok (.invokevirtual 168, 3) := by decide +kernel
theorem dX7_now_79 : decode cX7_now 79 = .ok (.ireturn, 1) := by decide +kernel
theorem dX7_now_80 : decode cX7_now 80 = .ok (.aload_n 0, 1) := by decide +kernel
theorem dX7_now_81 : decode cX7_now 81 = .ok (.getfield 71, 3) := by decide +kernel
theorem dX7_now_84 : decode cX7_now 84 = .ok (.getfield 171, 3) := by decide +kernel
theorem dX7_now_87 : decode cX7_now 87 = .ok (.ireturn, 1) := by decide +kernel
theorem dX7_now_88 : decode cX7_now 88 = .ok (.iconst (-1), 1) := by decide +kernel
theorem dX7_now_89 : decode cX7_now 89 = .ok (.ireturn, 1) := by decide +kernel
set_option maxRecDepth 20000 in
theorem ggX7_puts_X7_noBill : GoodIn wsX7_puts wsX7_noBill := goodIn_r _ [9] (by decide +kernel) (by decide +kernel)
set_option maxRecDepth 20000 in
theorem gX7_puts_X7_noBill : GoodIn wsX7_puts (va_wsS RX7 149 yX7_noBill wsX7_noBill) := goodIn_app (goodIn_of _ (by decide +kernel)) ggX7_puts_X7_noBill
set_option maxRecDepth 20000 in
theorem ggX7_puts_X3_remember : GoodIn wsX7_puts wsX3_remember := goodIn_r _ [14, 15, 16, 17, 18, 19, 20, 21, 22, 23, 24, 25, 26, 27, 28, 29, 30, 31, 32, 33, 34, 35, 36, 37, 108, 109, 110, 101, 102, 103, 104, 105, 106, 107] (by decide +kernel) (by decide +kernel)
set_option maxRecDepth 20000 in
theorem gX7_puts_X3_remember : GoodIn wsX7_puts (wsV RX7 174 RX3 yX3_remember wsX3_remember) := goodIn_app (goodIn_of _ (by decide +kernel)) ggX7_puts_X3_remember
set_option maxRecDepth 20000 in
theorem ggX7_puts_X6_passes : GoodIn wsX7_puts wsX6_passes := goodIn_r _ [42, 43, 44, 45, 41, 46, 47, 48, 49, 50, 51, 52, 53, 54, 55, 56, 57, 58, 59, 60, 61, 62, 63, 64, 65, 66, 67, 8, 68, 69, 70, 71, 72, 73, 74, 75, 76, 77, 78, 79, 80, 81, 82, 83, 111, 112, 101, 102, 103, 104, 105, 106, 107, 113, 114, 115, 116, 117, 118, 119] (by decide +kernel) (by decide +kernel)
set_option maxRecDepth 20000 in
theorem gX7_puts_X6_passes : GoodIn wsX7_puts (wsV RX7 178 RX6 yX6_passes wsX6_passes) := goodIn_app (goodIn_of _ (by decide +kernel)) ggX7_puts_X6_passes
set_option maxRecDepth 20000 in
theorem ggX7_puts_X2_cool : GoodIn wsX7_puts wsX2_cool := goodIn_r _ [87, 32, 101, 102, 103, 104, 105, 106, 107] (by decide +kernel) (by decide +kernel)
set_option maxRecDepth 20000 in
theorem gX7_puts_X2_cool : GoodIn wsX7_puts (wsV RX7 181 RX2 yX2_cool wsX2_cool) := goodIn_app (goodIn_of _ (by decide +kernel)) ggX7_puts_X2_cool
theorem dX7_puts_0 : decode cX7_puts 0 = .ok (.iload_n 1, 1) := by decide +kernel
theorem dX7_puts_1 : decode cX7_puts 1 = .ok (.invokestatic 149, 3) := by decide +kernel
theorem dX7_puts_4 : decode cX7_puts 4 = .ok (.ifCond .eq 5, 3) := by decide +kernel
theorem dX7_puts_7 : decode cX7_puts 7 = .ok (.iconst (-1), 1) := by decide +kernel
theorem dX7_puts_8 : decode cX7_puts 8 = .ok (.ireturn, 1) := by decide +kernel
theorem dX7_puts_9 : decode cX7_puts 9 = .ok (.aload_n 0, 1) := by decide +kernel
theorem dX7_puts_10 : decode cX7_puts 10 = .ok (.getfield 39, 3) := by decide +kernel
theorem dX7_puts_13 : decode cX7_puts 13 = .ok (.getfield 162, 3) := by decide +kernel
theorem dX7_puts_16 : decode cX7_puts 16 = .ok (.sipush 999, 3) := by decide +kernel
theorem dX7_puts_19 : decode cX7_puts 19 = .ok (.if_icmp .lt 6, 3) := by decide +kernel
theorem dX7_puts_22 : decode cX7_puts 22 = .ok (.bipush (-2), 2) := by decide +kernel
theorem dX7_puts_24 : decode cX7_puts 24 = .ok (.ireturn, 1) := by decide +kernel
theorem dX7_puts_25 : decode cX7_puts 25 = .ok (.aload_n 0, 1) := by decide +kernel
theorem dX7_puts_26 : decode cX7_puts 26 = .ok (.getfield 71, 3) := by decide +kernel
theorem dX7_puts_29 : decode cX7_puts 29 = .ok (.aload_n 0, 1) := by decide +kernel
theorem dX7_puts_30 : decode cX7_puts 30 = .ok (.getfield 39, 3) := by decide +kernel
theorem dX7_puts_33 : decode cX7_puts 33 = .ok (.invokevirtual 174, 3) := by decide +kernel
theorem dX7_puts_36 : decode cX7_puts 36 = .ok (.aload_n 0, 1) := by decide +kernel
theorem dX7_puts_37 : decode cX7_puts 37 = .ok (.getfield 48, 3) := by decide +kernel
theorem dX7_puts_40 : decode cX7_puts 40 = .ok (.iload_n 1, 1) := by decide +kernel
theorem dX7_puts_41 : decode cX7_puts 41 = .ok (.invokevirtual 178, 3) := by decide +kernel
theorem dX7_puts_44 : decode cX7_puts 44 = .ok (.ifCond .eq 7, 3) := by decide +kernel
theorem dX7_puts_47 : decode cX7_puts 47 = .ok (.iconst 1, 1) := by decide +kernel
theorem dX7_puts_48 : decode cX7_puts 48 = .ok (.goto 4, 3) := by decide +kernel
theorem dX7_puts_51 : decode cX7_puts 51 = .ok (.iconst 0, 1) := by decide +kernel
theorem dX7_puts_52 : decode cX7_puts 52 = .ok (.istore_n 2, 1) := by decide +kernel
theorem dX7_puts_53 : decode cX7_puts 53 = .ok (.aload_n 0, 1) := by decide +kernel
theorem dX7_puts_54 : decode cX7_puts 54 = .ok (.getfield 39, 3) := by decide +kernel
theorem dX7_puts_57 : decode cX7_puts 57 = .ok (.dup, 1) := by decide +kernel
theorem dX7_puts_58 : decode cX7_puts 58 = .ok (.getfield 162, 3) := by decide +kernel
theorem dX7_puts_61 : decode cX7_puts 61 = .ok (.iconst 1, 1) := by decide +kernel
theorem dX7_puts_62 : decode cX7_puts 62 = .ok (.iadd, 1) := by decide +kernel
theorem dX7_puts_63 : decode cX7_puts 63 = .ok (.putfield 162, 3) := by decide +kernel
theorem dX7_puts_66 : decode cX7_puts 66 = .ok (.aload_n 0, 1) := by decide +kernel
theorem dX7_puts_67 : decode cX7_puts 67 = .ok (.getfield 39, 3) := by decide +kernel
theorem dX7_puts_70 : decode cX7_puts 70 = .ok (.dup, 1) := by decide +kernel
theorem dX7_puts_71 : decode cX7_puts 71 = .ok (.getfield 165, 3) := by decide +kernel
theorem dX7_puts_74 : decode cX7_puts 74 = .ok (.iload_n 2, 1) := by decide +kernel
theorem dX7_puts_75 : decode cX7_puts 75 = .ok (.iadd, 1) := by decide +kernel
theorem dX7_puts_76 : decode cX7_puts 76 = .ok (.putfield 165, 3) := by decide +kernel
theorem dX7_puts_79 : decode cX7_puts 79 = .ok (.aload_n 0, 1) := by decide +kernel
theorem dX7_puts_80 : decode cX7_puts 80 = .ok (.getfield 39, 3) := by decide +kernel
theorem dX7_puts_83 : decode cX7_puts 83 = .ok (.invokevirtual 181, 3) := by decide +kernel
theorem dX7_puts_86 : decode cX7_puts 86 = .ok (.iload_n 2, 1) := by decide +kernel
theorem dX7_puts_87 : decode cX7_puts 87 = .ok (.ireturn, 1) := by decide +kernel
set_option maxRecDepth 20000 in
theorem ggX7_hands_X7_noThing : GoodIn wsX7_hands wsX7_noThing := goodIn_r _ [8, 9, 10, 44, 45, 46, 47, 48, 49, 50, 51, 52, 53, 54, 55, 56, 64, 65, 66, 67, 68, 69, 70] (by decide +kernel) (by decide +kernel)
set_option maxRecDepth 20000 in
theorem gX7_hands_X7_noThing : GoodIn wsX7_hands (wsV RX7 103 RX7 yX7_noThing wsX7_noThing) := goodIn_app (goodIn_of _ (by decide +kernel)) ggX7_hands_X7_noThing
set_option maxRecDepth 20000 in
theorem ggX7_hands_X7_noOfficer : GoodIn wsX7_hands wsX7_noOfficer := goodIn_r _ [14, 9, 15, 44, 45, 46, 47, 48, 49, 50, 51, 52, 53, 54, 55, 56, 64, 65, 66, 67, 68, 69, 70] (by decide +kernel) (by decide +kernel)
set_option maxRecDepth 20000 in
theorem gX7_hands_X7_noOfficer : GoodIn wsX7_hands (wsV RX7 137 RX7 yX7_noOfficer wsX7_noOfficer) := goodIn_app (goodIn_of _ (by decide +kernel)) ggX7_hands_X7_noOfficer
set_option maxRecDepth 20000 in
theorem ggX7_hands_X3_remember : GoodIn wsX7_hands wsX3_remember := goodIn_r _ [20, 21, 22, 23, 24, 25, 26, 27, 28, 29, 30, 31, 32, 33, 34, 35, 36, 37, 38, 39, 40, 41, 42, 43, 71, 72, 73, 57, 58, 59, 60, 61, 62, 63] (by decide +kernel) (by decide +kernel)
set_option maxRecDepth 20000 in
theorem gX7_hands_X3_remember : GoodIn wsX7_hands (wsV RX7 174 RX3 yX3_remember wsX3_remember) := goodIn_app (goodIn_of _ (by decide +kernel)) ggX7_hands_X3_remember
theorem dX7_hands_0 : decode cX7_hands 0 = .ok (.aload_n 0, 1) := by decide +kernel
theorem dX7_hands_1 : decode cX7_hands 1 = .ok (.iload_n 1, 1) := by decide +kernel
theorem dX7_hands_2 : decode cX7_hands 2 = .ok (.invokevirtual 103, 3) := by decide +kernel
theorem dX7_hands_5 : decode cX7_hands 5 = .ok (.ifCond .ne 11, 3) := by decide +kernel
theorem dX7_hands_8 : decode cX7_hands 8 = .ok (.aload_n 0, 1) := by decide +kernel
theorem dX7_hands_9 : decode cX7_hands 9 = .ok (.iload_n 2, 1) := by decide +kernel
theorem dX7_hands_10 : decode cX7_hands 10 = .ok (.invokevirtual 137, 3) := by decide +kernel
theorem dX7_hands_13 : decode cX7_hands 13 = .ok (.ifCond .eq 5, 3) := by decide +kernel
theorem dX7_hands_16 : decode cX7_hands 16 = .ok (.iconst (-1), 1) := by decide +kernel
theorem dX7_hands_17 : decode cX7_hands 17 = .ok (.ireturn, 1) := by decide +kernel
theorem dX7_hands_18 : decode cX7_hands 18 = .ok (.aload_n 0, 1) := by decide +kernel
theorem dX7_hands_19 : decode cX7_hands 19 = .ok (.getfield 71, 3) := by decide +kernel
theorem dX7_hands_22 : decode cX7_hands 22 = .ok (.aload_n 0, 1) := by decide +kernel
theorem dX7_hands_23 : decode cX7_hands 23 = .ok (.getfield 39, 3) := by decide +kernel
theorem dX7_hands_26 : decode cX7_hands 26 = .ok (.invokevirtual 174, 3) := by decide +kernel
theorem dX7_hands_29 : decode cX7_hands 29 = .ok (.aload_n 0, 1) := by decide +kernel
theorem dX7_hands_30 : decode cX7_hands 30 = .ok (.getfield 39, 3) := by decide +kernel
theorem dX7_hands_33 : decode cX7_hands 33 = .ok (.getfield 117, 3) := by decide +kernel
theorem dX7_hands_36 : decode cX7_hands 36 = .ok (.iload_n 1, 1) := by decide +kernel
theorem dX7_hands_37 : decode cX7_hands 37 = .ok (.iaload, 1) := by decide +kernel
theorem dX7_hands_38 : decode cX7_hands 38 = .ok (.istore_n 3, 1) := by decide +kernel
theorem dX7_hands_39 : decode cX7_hands 39 = .ok (.aload_n 0, 1) := by decide +kernel
theorem dX7_hands_40 : decode cX7_hands 40 = .ok (.getfield 39, 3) := by decide +kernel
theorem dX7_hands_43 : decode cX7_hands 43 = .ok (.getfield 117, 3) := by decide +kernel
theorem dX7_hands_46 : decode cX7_hands 46 = .ok (.iload_n 1, 1) := by decide +kernel
theorem dX7_hands_47 : decode cX7_hands 47 = .ok (.iload_n 2, 1) := by decide +kernel
theorem dX7_hands_48 : decode cX7_hands 48 = .ok (.iastore, 1) := by decide +kernel
theorem dX7_hands_49 : decode cX7_hands 49 = .ok (.iload_n 3, 1) := by decide +kernel
theorem dX7_hands_50 : decode cX7_hands 50 = .ok (.ireturn, 1) := by decide +kernel
set_option maxRecDepth 20000 in
theorem ggX7_washes_X7_noThing : GoodIn wsX7_washes wsX7_noThing := goodIn_r _ [8, 9, 10, 49, 50, 51, 52, 53, 54, 55, 56, 57, 58, 59, 60, 61, 69, 70, 71, 72, 73, 74, 75] (by decide +kernel) (by decide +kernel)
set_option maxRecDepth 20000 in
theorem gX7_washes_X7_noThing : GoodIn wsX7_washes (wsV RX7 103 RX7 yX7_noThing wsX7_noThing) := goodIn_app (goodIn_of _ (by decide +kernel)) ggX7_washes_X7_noThing
set_option maxRecDepth 20000 in
theorem ggX7_washes_X7_bit : GoodIn wsX7_washes wsX7_bit := goodIn_r _ [13] (by decide +kernel) (by decide +kernel)
set_option maxRecDepth 20000 in
theorem gX7_washes_X7_bit : GoodIn wsX7_washes (va_wsS RX7 123 yX7_bit wsX7_bit) := goodIn_app (goodIn_of _ (by decide +kernel)) ggX7_washes_X7_bit
set_option maxRecDepth 20000 in
theorem ggX7_washes_X3_remember : GoodIn wsX7_washes wsX3_remember := goodIn_r _ [18, 19, 20, 21, 22, 23, 24, 25, 26, 27, 28, 29, 30, 31, 32, 33, 34, 35, 36, 37, 38, 39, 40, 41, 76, 77, 78, 62, 63, 64, 65, 66, 67, 68] (by decide +kernel) (by decide +kernel)
set_option maxRecDepth 20000 in
theorem gX7_washes_X3_remember : GoodIn wsX7_washes (wsV RX7 174 RX3 yX3_remember wsX3_remember) := goodIn_app (goodIn_of _ (by decide +kernel)) ggX7_washes_X3_remember
set_option maxRecDepth 20000 in
theorem ggX7_washes_J6_bitCount_0f7a4 : GoodIn wsX7_washes wsJ6_bitCount_0f7a4 := goodIn_r _ [45, 46, 47, 48] (by decide +kernel) (by decide +kernel)
set_option maxRecDepth 20000 in
theorem gX7_washes_J6_bitCount_0f7a4 : GoodIn wsX7_washes (va_wsS RX7 184 yJ6_bitCount_0f7a4 wsJ6_bitCount_0f7a4) := goodIn_app (goodIn_of _ (by decide +kernel)) ggX7_washes_J6_bitCount_0f7a4
theorem dX7_washes_0 : decode cX7_washes 0 = .ok (.aload_n 0, 1) := by decide +kernel
theorem dX7_washes_1 : decode cX7_washes 1 = .ok (.iload_n 1, 1) := by decide +kernel
theorem dX7_washes_2 : decode cX7_washes 2 = .ok (.invokevirtual 103, 3) := by decide +kernel
theorem dX7_washes_5 : decode cX7_washes 5 = .ok (.ifCond .eq 5, 3) := by decide +kernel
theorem dX7_washes_8 : decode cX7_washes 8 = .ok (.iconst (-1), 1) := by decide +kernel
theorem dX7_washes_9 : decode cX7_washes 9 = .ok (.ireturn, 1) := by decide +kernel
theorem dX7_washes_10 : decode cX7_washes 10 = .ok (.aload_n 0, 1) := by decide +kernel
theorem dX7_washes_11 : decode cX7_washes 11 = .ok (.getfield 39, 3) := by decide +kernel
theorem dX7_washes_14 : decode cX7_washes 14 = .ok (.getfield 120, 3) := by decide +kernel
theorem dX7_washes_17 : decode cX7_washes 17 = .ok (.iload_n 1, 1) := by decide +kernel
theorem dX7_washes_18 : decode cX7_washes 18 = .ok (.invokestatic 123, 3) := by decide +kernel
theorem dX7_washes_21 : decode cX7_washes 21 = .ok (.iconst 1, 1) := by decide +kernel
theorem dX7_washes_22 : decode cX7_washes 22 = .ok (.if_icmp .ne 6, 3) := by decide +kernel
theorem dX7_washes_25 : decode cX7_washes 25 = .ok (.bipush (-2), 2) := by decide +kernel
theorem dX7_washes_27 : decode cX7_washes 27 = .ok (.ireturn, 1) := by decide +kernel
theorem dX7_washes_28 : decode cX7_washes 28 = .ok (.aload_n 0, 1) := by decide +kernel
theorem dX7_washes_29 : decode cX7_washes 29 = .ok (.getfield 71, 3) := by decide +kernel
theorem dX7_washes_32 : decode cX7_washes 32 = .ok (.aload_n 0, 1) := by decide +kernel
theorem dX7_washes_33 : decode cX7_washes 33 = .ok (.getfield 39, 3) := by decide +kernel
theorem dX7_washes_36 : decode cX7_washes 36 = .ok (.invokevirtual 174, 3) := by decide +kernel
theorem dX7_washes_39 : decode cX7_washes 39 = .ok (.aload_n 0, 1) := by decide +kernel
theorem dX7_washes_40 : decode cX7_washes 40 = .ok (.getfield 39, 3) := by decide +kernel
theorem dX7_washes_43 : decode cX7_washes 43 = .ok (.dup, 1) := by decide +kernel
theorem dX7_washes_44 : decode cX7_washes 44 = .ok (.getfield 120, 3) := by decide +kernel
theorem dX7_washes_47 : decode cX7_washes 47 = .ok (.iconst 1, 1) := by decide +kernel
theorem dX7_washes_48 : decode cX7_washes 48 = .ok (.iload_n 1, 1) := by decide +kernel
theorem dX7_washes_49 : decode cX7_washes 49 = .ok (.ishl, 1) := by decide +kernel
theorem dX7_washes_50 : decode cX7_washes 50 = .ok (.ior, 1) := by decide +kernel
theorem dX7_washes_51 : decode cX7_washes 51 = .ok (.putfield 120, 3) := by decide +kernel
theorem dX7_washes_54 : decode cX7_washes 54 = .ok (.aload_n 0, 1) := by decide +kernel
theorem dX7_washes_55 : decode cX7_washes 55 = .ok (.getfield 39, 3) := by decide +kernel
theorem dX7_washes_58 : decode cX7_washes 58 = .ok (.getfield 120, 3) := by decide +kernel
theorem dX7_washes_61 : decode cX7_washes 61 = .ok (.invokestatic 184, 3) := by decide +kernel
theorem dX7_washes_64 : decode cX7_washes 64 = .ok (.ireturn, 1) := by decide +kernel
set_option maxRecDepth 20000 in
theorem ggX7_hangs_X7_noThing : GoodIn wsX7_hangs wsX7_noThing := goodIn_r _ [11, 4, 12, 44, 45, 46, 47, 48, 49, 50, 51, 52, 53, 54, 55, 56, 64, 65, 66, 67, 68, 69, 70] (by decide +kernel) (by decide +kernel)
set_option maxRecDepth 20000 in
theorem gX7_hangs_X7_noThing : GoodIn wsX7_hangs (wsV RX7 103 RX7 yX7_noThing wsX7_noThing) := goodIn_app (goodIn_of _ (by decide +kernel)) ggX7_hangs_X7_noThing
set_option maxRecDepth 20000 in
theorem ggX7_hangs_X7_bit : GoodIn wsX7_hangs wsX7_bit := goodIn_r _ [15] (by decide +kernel) (by decide +kernel)
set_option maxRecDepth 20000 in
theorem gX7_hangs_X7_bit : GoodIn wsX7_hangs (va_wsS RX7 123 yX7_bit wsX7_bit) := goodIn_app (goodIn_of _ (by decide +kernel)) ggX7_hangs_X7_bit
set_option maxRecDepth 20000 in
theorem ggX7_hangs_X3_remember : GoodIn wsX7_hangs wsX3_remember := goodIn_r _ [20, 21, 22, 23, 24, 25, 26, 27, 28, 29, 30, 31, 32, 33, 34, 35, 36, 37, 38, 39, 40, 41, 42, 43, 71, 72, 73, 57, 58, 59, 60, 61, 62, 63] (by decide +kernel) (by decide +kernel)
set_option maxRecDepth 20000 in
theorem gX7_hangs_X3_remember : GoodIn wsX7_hangs (wsV RX7 174 RX3 yX3_remember wsX3_remember) := goodIn_app (goodIn_of _ (by decide +kernel)) ggX7_hangs_X3_remember
theorem dX7_hangs_0 : decode cX7_hangs 0 = .ok (.aload_n 0, 1) := by decide +kernel
theorem dX7_hangs_1 : decode cX7_hangs 1 = .ok (.iload_n 1, 1) := by decide +kernel
theorem dX7_hangs_2 : decode cX7_hangs 2 = .ok (.invokevirtual 103, 3) := by decide +kernel
theorem dX7_hangs_5 : decode cX7_hangs 5 = .ok (.ifCond .eq 5, 3) := by decide +kernel
theorem dX7_hangs_8 : decode cX7_hangs 8 = .ok (.iconst (-1), 1) := by decide +kernel
theorem dX7_hangs_9 : decode cX7_hangs 9 = .ok (.ireturn, 1) := by decide +kernel
theorem dX7_hangs_10 : decode cX7_hangs 10 = .ok (.aload_n 0, 1) := by decide +kernel
theorem dX7_hangs_11 : decode cX7_hangs 11 = .ok (.getfield 39, 3) := by decide +kernel
theorem dX7_hangs_14 : decode cX7_hangs 14 = .ok (.getfield 120, 3) := by decide +kernel
theorem dX7_hangs_17 : decode cX7_hangs 17 = .ok (.iload_n 1, 1) := by decide +kernel
theorem dX7_hangs_18 : decode cX7_hangs 18 = .ok (.invokestatic 123, 3) := by decide +kernel
theorem dX7_hangs_21 : decode cX7_hangs 21 = .ok (.ifCond .ne 6, 3) := by decide +kernel
theorem dX7_hangs_24 : decode cX7_hangs 24 = .ok (.bipush (-2), 2) := by decide +kernel
theorem dX7_hangs_26 : decode cX7_hangs 26 = .ok (.ireturn, 1) := by decide +kernel
theorem dX7_hangs_27 : decode cX7_hangs 27 = .ok (.aload_n 0, 1) := by decide +kernel
theorem dX7_hangs_28 : decode cX7_hangs 28 = .ok (.getfield 71, 3) := by decide +kernel
theorem dX7_hangs_31 : decode cX7_hangs 31 = .ok (.aload_n 0, 1) := by decide +kernel
theorem dX7_hangs_32 : decode cX7_hangs 32 = .ok (.getfield 39, 3) := by decide +kernel
theorem dX7_hangs_35 : decode cX7_hangs 35 = .ok (.invokevirtual 174, 3) := by decide +kernel
theorem dX7_hangs_38 : decode cX7_hangs 38 = .ok (.aload_n 0, 1) := by decide +kernel
theorem dX7_hangs_39 : decode cX7_hangs 39 = .ok (.getfield 39, 3) := by decide +kernel
theorem dX7_hangs_42 : decode cX7_hangs 42 = .ok (.dup, 1) := by decide +kernel
theorem dX7_hangs_43 : decode cX7_hangs 43 = .ok (.getfield 120, 3) := by decide +kernel
theorem dX7_hangs_46 : decode cX7_hangs 46 = .ok (.iconst 1, 1) := by decide +kernel
theorem dX7_hangs_47 : decode cX7_hangs 47 = .ok (.iload_n 1, 1) := by decide +kernel
theorem dX7_hangs_48 : decode cX7_hangs 48 = .ok (.ishl, 1) := by decide +kernel
theorem dX7_hangs_49 : decode cX7_hangs 49 = .ok (.iconst (-1), 1) := by decide +kernel
theorem dX7_hangs_50 : decode cX7_hangs 50 = .ok (.ixor, 1) := by decide +kernel
theorem dX7_hangs_51 : decode cX7_hangs 51 = .ok (.iand, 1) := by decide +kernel
theorem dX7_hangs_52 : decode cX7_hangs 52 = .ok (.putfield 120, 3) := by decide +kernel
theorem dX7_hangs_55 : decode cX7_hangs 55 = .ok (.aload_n 0, 1) := by decide +kernel
theorem dX7_hangs_56 : decode cX7_hangs 56 = .ok (.getfield 20, 3) := by decide +kernel
theorem dX7_hangs_59 : decode cX7_hangs 59 = .ok (.getfield 107, 3) := by decide +kernel
theorem dX7_hangs_62 : decode cX7_hangs 62 = .ok (.iload_n 1, 1) := by decide +kernel
theorem dX7_hangs_63 : decode cX7_hangs 63 = .ok (.iaload, 1) := by decide +kernel
theorem dX7_hangs_64 : decode cX7_hangs 64 = .ok (.iconst 2, 1) := by decide +kernel
theorem dX7_hangs_65 : decode cX7_hangs 65 = .ok (.if_icmp .ne 18, 3) := by decide +kernel
theorem dX7_hangs_68 : decode cX7_hangs 68 = .ok (.aload_n 0, 1) := by decide +kernel
theorem dX7_hangs_69 : decode cX7_hangs 69 = .ok (.getfield 39, 3) := by decide +kernel
theorem dX7_hangs_72 : decode cX7_hangs 72 = .ok (.dup, 1) := by decide +kernel
theorem dX7_hangs_73 : decode cX7_hangs 73 = .ok (.getfield 127, 3) := by decide +kernel
theorem dX7_hangs_76 : decode cX7_hangs 76 = .ok (.iconst 1, 1) := by decide +kernel
theorem dX7_hangs_77 : decode cX7_hangs 77 = .ok (.iload_n 1, 1) := by decide +kernel
theorem dX7_hangs_78 : decode cX7_hangs 78 = .ok (.ishl, 1) := by decide +kernel
theorem dX7_hangs_79 : decode cX7_hangs 79 = .ok (.ixor, 1) := by decide +kernel
theorem dX7_hangs_80 : decode cX7_hangs 80 = .ok (.putfield 127, 3) := by decide +kernel
theorem dX7_hangs_83 : decode cX7_hangs 83 = .ok (.aload_n 0, 1) := by decide +kernel
theorem dX7_hangs_84 : decode cX7_hangs 84 = .ok (.getfield 39, 3) := by decide +kernel
theorem dX7_hangs_87 : decode cX7_hangs 87 = .ok (.getfield 127, 3) := by decide +kernel
theorem dX7_hangs_90 : decode cX7_hangs 90 = .ok (.iload_n 1, 1) := by decide +kernel
theorem dX7_hangs_91 : decode cX7_hangs 91 = .ok (.invokestatic 123, 3) := by decide +kernel
theorem dX7_hangs_94 : decode cX7_hangs 94 = .ok (.ireturn, 1) := by decide +kernel
set_option maxRecDepth 20000 in
theorem ggX7_warms_X7_noThing : GoodIn wsX7_warms wsX7_noThing := goodIn_r _ [11, 1, 12, 41, 42, 43, 44, 45, 46, 47, 48, 49, 50, 51, 52, 53, 54, 55, 56, 57, 58, 59, 60] (by decide +kernel) (by decide +kernel)
set_option maxRecDepth 20000 in
theorem gX7_warms_X7_noThing : GoodIn wsX7_warms (wsV RX7 103 RX7 yX7_noThing wsX7_noThing) := goodIn_app (goodIn_of _ (by decide +kernel)) ggX7_warms_X7_noThing
set_option maxRecDepth 20000 in
theorem ggX7_warms_X3_remember : GoodIn wsX7_warms wsX3_remember := goodIn_r _ [17, 18, 19, 20, 21, 22, 23, 24, 25, 26, 27, 28, 29, 30, 31, 32, 33, 34, 35, 36, 37, 38, 39, 40, 68, 69, 70, 61, 62, 63, 64, 65, 66, 67] (by decide +kernel) (by decide +kernel)
set_option maxRecDepth 20000 in
theorem gX7_warms_X3_remember : GoodIn wsX7_warms (wsV RX7 174 RX3 yX3_remember wsX3_remember) := goodIn_app (goodIn_of _ (by decide +kernel)) ggX7_warms_X3_remember
theorem dX7_warms_0 : decode cX7_warms 0 = .ok (.aload_n 0, 1) := by decide +kernel
theorem dX7_warms_1 : decode cX7_warms 1 = .ok (.iload_n 1, 1) := by decide +kernel
theorem dX7_warms_2 : decode cX7_warms 2 = .ok (.invokevirtual 103, 3) := by decide +kernel
theorem dX7_warms_5 : decode cX7_warms 5 = .ok (.ifCond .eq 5, 3) := by decide +kernel
theorem dX7_warms_8 : decode cX7_warms 8 = .ok (.iconst (-1), 1) := by decide +kernel
theorem dX7_warms_9 : decode cX7_warms 9 = .ok (.ireturn, 1) := by decide +kernel
theorem dX7_warms_10 : decode cX7_warms 10 = .ok (.aload_n 0, 1) := by decide +kernel
theorem dX7_warms_11 : decode cX7_warms 11 = .ok (.getfield 20, 3) := by decide +kernel
theorem dX7_warms_14 : decode cX7_warms 14 = .ok (.getfield 107, 3) := by decide +kernel
theorem dX7_warms_17 : decode cX7_warms 17 = .ok (.iload_n 1, 1) := by decide +kernel
theorem dX7_warms_18 : decode cX7_warms 18 = .ok (.iaload, 1) := by decide +kernel
theorem dX7_warms_19 : decode cX7_warms 19 = .ok (.iconst 1, 1) := by decide +kernel
theorem dX7_warms_20 : decode cX7_warms 20 = .ok (.if_icmp .eq 6, 3) := by decide +kernel
theorem dX7_warms_23 : decode cX7_warms 23 = .ok (.bipush (-2), 2) := by decide +kernel
theorem dX7_warms_25 : decode cX7_warms 25 = .ok (.ireturn, 1) := by decide +kernel
theorem dX7_warms_26 : decode cX7_warms 26 = .ok (.aload_n 0, 1) := by decide +kernel
theorem dX7_warms_27 : decode cX7_warms 27 = .ok (.getfield 71, 3) := by decide +kernel
theorem dX7_warms_30 : decode cX7_warms 30 = .ok (.aload_n 0, 1) := by decide +kernel
theorem dX7_warms_31 : decode cX7_warms 31 = .ok (.getfield 39, 3) := by decide +kernel
theorem dX7_warms_34 : decode cX7_warms 34 = .ok (.invokevirtual 174, 3) := by decide +kernel
theorem dX7_warms_37 : decode cX7_warms 37 = .ok (.aload_n 0, 1) := by decide +kernel
theorem dX7_warms_38 : decode cX7_warms 38 = .ok (.getfield 39, 3) := by decide +kernel
theorem dX7_warms_41 : decode cX7_warms 41 = .ok (.getfield 130, 3) := by decide +kernel
theorem dX7_warms_44 : decode cX7_warms 44 = .ok (.iload_n 1, 1) := by decide +kernel
theorem dX7_warms_45 : decode cX7_warms 45 = .ok (.iaload, 1) := by decide +kernel
theorem dX7_warms_46 : decode cX7_warms 46 = .ok (.istore_n 2, 1) := by decide +kernel
theorem dX7_warms_47 : decode cX7_warms 47 = .ok (.aload_n 0, 1) := by decide +kernel
theorem dX7_warms_48 : decode cX7_warms 48 = .ok (.getfield 39, 3) := by decide +kernel
theorem dX7_warms_51 : decode cX7_warms 51 = .ok (.getfield 130, 3) := by decide +kernel
theorem dX7_warms_54 : decode cX7_warms 54 = .ok (.iload_n 1, 1) := by decide +kernel
theorem dX7_warms_55 : decode cX7_warms 55 = .ok (.aload_n 0, 1) := by decide +kernel
theorem dX7_warms_56 : decode cX7_warms 56 = .ok (.getfield 20, 3) := by decide +kernel
theorem dX7_warms_59 : decode cX7_warms 59 = .ok (.getfield 189, 3) := by decide +kernel
theorem dX7_warms_62 : decode cX7_warms 62 = .ok (.iastore, 1) := by decide +kernel
theorem dX7_warms_63 : decode cX7_warms 63 = .ok (.iload_n 2, 1) := by decide +kernel
theorem dX7_warms_64 : decode cX7_warms 64 = .ok (.ireturn, 1) := by decide +kernel
set_option maxRecDepth 20000 in
theorem ggX7_sickens_X7_noOfficer : GoodIn wsX7_sickens wsX7_noOfficer := goodIn_r _ [8, 9, 10, 42, 43, 44, 45, 46, 47, 48, 49, 50, 51, 52, 53, 54, 62, 63, 64, 65, 66, 67, 68] (by decide +kernel) (by decide +kernel)
set_option maxRecDepth 20000 in
theorem gX7_sickens_X7_noOfficer : GoodIn wsX7_sickens (wsV RX7 137 RX7 yX7_noOfficer wsX7_noOfficer) := goodIn_app (goodIn_of _ (by decide +kernel)) ggX7_sickens_X7_noOfficer
set_option maxRecDepth 20000 in
theorem ggX7_sickens_X3_remember : GoodIn wsX7_sickens wsX3_remember := goodIn_r _ [15, 16, 17, 18, 19, 20, 21, 22, 23, 24, 25, 26, 27, 28, 29, 30, 31, 32, 33, 34, 35, 36, 37, 38, 69, 70, 71, 55, 56, 57, 58, 59, 60, 61] (by decide +kernel) (by decide +kernel)
set_option maxRecDepth 20000 in
theorem gX7_sickens_X3_remember : GoodIn wsX7_sickens (wsV RX7 174 RX3 yX3_remember wsX3_remember) := goodIn_app (goodIn_of _ (by decide +kernel)) ggX7_sickens_X3_remember
set_option maxRecDepth 20000 in
theorem ggX7_sickens_X7_bit : GoodIn wsX7_sickens wsX7_bit := goodIn_r _ [41] (by decide +kernel) (by decide +kernel)
set_option maxRecDepth 20000 in
theorem gX7_sickens_X7_bit : GoodIn wsX7_sickens (va_wsS RX7 123 yX7_bit wsX7_bit) := goodIn_app (goodIn_of _ (by decide +kernel)) ggX7_sickens_X7_bit
theorem dX7_sickens_0 : decode cX7_sickens 0 = .ok (.aload_n 0, 1) := by decide +kernel
theorem dX7_sickens_1 : decode cX7_sickens 1 = .ok (.iload_n 1, 1) := by decide +kernel
theorem dX7_sickens_2 : decode cX7_sickens 2 = .ok (.invokevirtual 137, 3) := by decide +kernel
theorem dX7_sickens_5 : decode cX7_sickens 5 = .ok (.ifCond .ne 12, 3) := by decide +kernel
theorem dX7_sickens_8 : decode cX7_sickens 8 = .ok (.iload_n 2, 1) := by decide +kernel
theorem dX7_sickens_9 : decode cX7_sickens 9 = .ok (.ifCond .lt 8, 3) := by decide +kernel
theorem dX7_sickens_12 : decode cX7_sickens 12 = .ok (.iload_n 2, 1) := by decide +kernel
theorem dX7_sickens_13 : decode cX7_sickens 13 = .ok (.iconst 1, 1) := by decide +kernel
theorem dX7_sickens_14 : decode cX7_sickens 14 = .ok (.if_icmp .le 5, 3) := by decide +kernel
theorem dX7_sickens_17 : decode cX7_sickens 17 = .ok (.iconst (-1), 1) := by decide +kernel
theorem dX7_sickens_18 : decode cX7_sickens 18 = .ok (.ireturn, 1) := by decide +kernel
theorem dX7_sickens_19 : decode cX7_sickens 19 = .ok (.aload_n 0, 1) := by decide +kernel
theorem dX7_sickens_20 : decode cX7_sickens 20 = .ok (.getfield 71, 3) := by decide +kernel
theorem dX7_sickens_23 : decode cX7_sickens 23 = .ok (.aload_n 0, 1) := by decide +kernel
theorem dX7_sickens_24 : decode cX7_sickens 24 = .ok (.getfield 39, 3) := by decide +kernel
theorem dX7_sickens_27 : decode cX7_sickens 27 = .ok (.invokevirtual 174, 3) := by decide +kernel
theorem dX7_sickens_30 : decode cX7_sickens 30 = .ok (.aload_n 0, 1) := by decide +kernel
theorem dX7_sickens_31 : decode cX7_sickens 31 = .ok (.getfield 39, 3) := by decide +kernel
theorem dX7_sickens_34 : decode cX7_sickens 34 = .ok (.getfield 140, 3) := by decide +kernel
theorem dX7_sickens_37 : decode cX7_sickens 37 = .ok (.iload_n 1, 1) := by decide +kernel
theorem dX7_sickens_38 : decode cX7_sickens 38 = .ok (.invokestatic 123, 3) := by decide +kernel
theorem dX7_sickens_41 : decode cX7_sickens 41 = .ok (.istore_n 3, 1) := by decide +kernel
theorem dX7_sickens_42 : decode cX7_sickens 42 = .ok (.aload_n 0, 1) := by decide +kernel
theorem dX7_sickens_43 : decode cX7_sickens 43 = .ok (.getfield 39, 3) := by decide +kernel
theorem dX7_sickens_46 : decode cX7_sickens 46 = .ok (.aload_n 0, 1) := by decide +kernel
theorem dX7_sickens_47 : decode cX7_sickens 47 = .ok (.getfield 39, 3) := by decide +kernel
theorem dX7_sickens_50 : decode cX7_sickens 50 = .ok (.getfield 140, 3) := by decide +kernel
theorem dX7_sickens_53 : decode cX7_sickens 53 = .ok (.iconst 1, 1) := by decide +kernel
theorem dX7_sickens_54 : decode cX7_sickens 54 = .ok (.iload_n 1, 1) := by decide +kernel
theorem dX7_sickens_55 : decode cX7_sickens 55 = .ok (.ishl, 1) := by decide +kernel
theorem dX7_sickens_56 : decode cX7_sickens 56 = .ok (.iconst (-1), 1) := by decide +kernel
theorem dX7_sickens_57 : decode cX7_sickens 57 = .ok (.ixor, 1) := by decide +kernel
theorem dX7_sickens_58 : decode cX7_sickens 58 = .ok (.iand, 1) := by decide +kernel
theorem dX7_sickens_59 : decode cX7_sickens 59 = .ok (.iload_n 2, 1) := by decide +kernel
theorem dX7_sickens_60 : decode cX7_sickens 60 = .ok (.iload_n 1, 1) := by decide +kernel
theorem dX7_sickens_61 : decode cX7_sickens 61 = .ok (.ishl, 1) := by decide +kernel
theorem dX7_sickens_62 : decode cX7_sickens 62 = .ok (.ior, 1) := by decide +kernel
theorem dX7_sickens_63 : decode cX7_sickens 63 = .ok (.putfield 140, 3) := by decide +kernel
theorem dX7_sickens_66 : decode cX7_sickens 66 = .ok (.iload_n 3, 1) := by decide +kernel
theorem dX7_sickens_67 : decode cX7_sickens 67 = .ok (.ireturn, 1) := by decide +kernel
set_option maxRecDepth 20000 in
theorem ggX7_undo_X3_recall : GoodIn wsX7_undo wsX3_recall := goodIn_r _ [8, 9, 10, 11, 12, 13, 14, 15, 16, 17, 18, 19, 20, 21, 22, 23, 24, 25, 26, 27, 41, 42, 43, 44, 45, 46, 47, 48, 49, 50] (by decide +kernel) (by decide +kernel)
set_option maxRecDepth 20000 in
theorem gX7_undo_X3_recall : GoodIn wsX7_undo (wsV RX7 191 RX3 yX3_recall wsX3_recall) := goodIn_app (goodIn_of _ (by decide +kernel)) ggX7_undo_X3_recall
theorem dX7_undo_0 : decode cX7_undo 0 = .ok (.aload_n 0, 1) := by decide +kernel
theorem dX7_undo_1 : decode cX7_undo 1 = .ok (.getfield 71, 3) := by decide +kernel
theorem dX7_undo_4 : decode cX7_undo 4 = .ok (.getfield 171, 3) := by decide +kernel
theorem dX7_undo_7 : decode cX7_undo 7 = .ok (.ifCond .ne 6, 3) := by decide +kernel
theorem dX7_undo_10 : decode cX7_undo 10 = .ok (.bipush (-2), 2) := by decide +kernel
theorem dX7_undo_12 : decode cX7_undo 12 = .ok (.ireturn, 1) := by decide +kernel
theorem dX7_undo_13 : decode cX7_undo 13 = .ok (.aload_n 0, 1) := by decide +kernel
theorem dX7_undo_14 : decode cX7_undo 14 = .ok (.getfield 71, 3) := by decide +kernel
theorem dX7_undo_17 : decode cX7_undo 17 = .ok (.aload_n 0, 1) := by decide +kernel
theorem dX7_undo_18 : decode cX7_undo 18 = .ok (.getfield 39, 3) := by decide +kernel
theorem dX7_undo_21 : decode cX7_undo 21 = .ok (.invokevirtual 191, 3) := by decide +kernel
theorem dX7_undo_24 : decode cX7_undo 24 = .ok (.aload_n 0, 1) := by decide +kernel
theorem dX7_undo_25 : decode cX7_undo 25 = .ok (.getfield 71, 3) := by decide +kernel
theorem dX7_undo_28 : decode cX7_undo 28 = .ok (.getfield 171, 3) := by decide +kernel
theorem dX7_undo_31 : decode cX7_undo 31 = .ok (.ireturn, 1) := by decide +kernel
set_option maxRecDepth 20000 in
theorem ggX7_power_X7_noThing : GoodIn wsX7_power wsX7_noThing := goodIn_r _ [7, 8, 9, 79, 80, 81, 82, 83, 84, 85, 86, 87, 88, 89, 90, 91, 92, 93, 94, 95, 96, 97, 98] (by decide +kernel) (by decide +kernel)
set_option maxRecDepth 20000 in
theorem gX7_power_X7_noThing : GoodIn wsX7_power (wsV RX7 103 RX7 yX7_noThing wsX7_noThing) := goodIn_app (goodIn_of _ (by decide +kernel)) ggX7_power_X7_noThing
set_option maxRecDepth 20000 in
theorem ggX7_power_X7_noTerm : GoodIn wsX7_power wsX7_noTerm := goodIn_r _ [12] (by decide +kernel) (by decide +kernel)
set_option maxRecDepth 20000 in
theorem gX7_power_X7_noTerm : GoodIn wsX7_power (va_wsS RX7 194 yX7_noTerm wsX7_noTerm) := goodIn_app (goodIn_of _ (by decide +kernel)) ggX7_power_X7_noTerm
set_option maxRecDepth 20000 in
theorem ggX7_power_X6_voices : GoodIn wsX7_power wsX6_voices := goodIn_r _ [17, 18, 19, 20, 21, 22, 16, 23, 24, 25, 26, 27, 28, 29, 30, 31, 32, 33, 34, 35, 36, 37, 38, 6, 39, 99, 100, 101, 102, 103, 104, 105, 106, 107, 92, 93, 94, 95, 96, 97, 98] (by decide +kernel) (by decide +kernel)
set_option maxRecDepth 20000 in
theorem gX7_power_X6_voices : GoodIn wsX7_power (wsV RX7 133 RX6 yX6_voices wsX6_voices) := goodIn_app (goodIn_of _ (by decide +kernel)) ggX7_power_X6_voices
set_option maxRecDepth 20000 in
theorem ggX7_power_X4_ordersDecided : GoodIn wsX7_power wsX4_ordersDecided := goodIn_r _ [44, 45, 6, 46, 47, 48, 49, 43, 50, 51, 52, 53, 54, 16, 55, 28, 29, 56, 38, 39, 57, 58, 59, 60, 61, 62, 63, 64, 65, 66, 67, 108, 99, 100, 92, 93, 94, 95, 96, 97, 98] (by decide +kernel) (by decide +kernel)
set_option maxRecDepth 20000 in
theorem gX7_power_X4_ordersDecided : GoodIn wsX7_power (wsV RX7 197 RX4 yX4_ordersDecided wsX4_ordersDecided) := goodIn_app (goodIn_of _ (by decide +kernel)) ggX7_power_X4_ordersDecided
set_option maxRecDepth 20000 in
theorem ggX7_power_X4_orders : GoodIn wsX7_power wsX4_orders := goodIn_r _ [71, 51, 72, 14, 15, 16, 17, 18, 19, 20, 21, 22, 23, 24, 25, 26, 27, 28, 29, 30, 31, 32, 33, 34, 35, 36, 37, 38, 6, 39, 57, 58, 59, 60, 61, 62, 63, 64, 65, 43, 66, 67, 108, 99, 100, 101, 102, 103, 104, 105, 106, 107, 92, 93, 94, 95, 96, 97, 98] (by decide +kernel) (by decide +kernel)
set_option maxRecDepth 20000 in
theorem gX7_power_X4_orders : GoodIn wsX7_power (wsV RX7 200 RX4 yX4_orders wsX4_orders) := goodIn_app (goodIn_of _ (by decide +kernel)) ggX7_power_X4_orders
set_option maxRecDepth 20000 in
theorem ggX7_power_X7_term : GoodIn wsX7_power wsX7_term := goodIn_r _ [75, 76, 77, 6, 78] (by decide +kernel) (by decide +kernel)
set_option maxRecDepth 20000 in
theorem gX7_power_X7_term : GoodIn wsX7_power (va_wsS RX7 203 yX7_term wsX7_term) := goodIn_app (goodIn_of _ (by decide +kernel)) ggX7_power_X7_term
theorem dX7_power_0 : decode cX7_power 0 = .ok (.aload_n 0, 1) := by decide +kernel
theorem dX7_power_1 : decode cX7_power 1 = .ok (.iload_n 1, 1) := by decide +kernel
theorem dX7_power_2 : decode cX7_power 2 = .ok (.invokevirtual 103, 3) := by decide +kernel
theorem dX7_power_5 : decode cX7_power 5 = .ok (.ifCond .ne 10, 3) := by decide +kernel
theorem dX7_power_8 : decode cX7_power 8 = .ok (.iload_n 2, 1) := by decide +kernel
theorem dX7_power_9 : decode cX7_power 9 = .ok (.invokestatic 194, 3) := by decide +kernel
theorem dX7_power_12 : decode cX7_power 12 = .ok (.ifCond .eq 5, 3) := by decide +kernel
theorem dX7_power_15 : decode cX7_power 15 = .ok (.iconst (-1), 1) := by decide +kernel
theorem dX7_power_16 : decode cX7_power 16 = .ok (.ireturn, 1) := by decide +kernel
theorem dX7_power_17 : decode cX7_power 17 = .ok (.aload_n 0, 1) := by decide +kernel
theorem dX7_power_18 : decode cX7_power 18 = .ok (.getfield 57, 3) := by decide +kernel
theorem dX7_power_21 : decode cX7_power 21 = .ok (.iload_n 1, 1) := by decide +kernel
theorem dX7_power_22 : decode cX7_power 22 = .ok (.aload_n 0, 1) := by decide +kernel
theorem dX7_power_23 : decode cX7_power 23 = .ok (.getfield 48, 3) := by decide +kernel
theorem dX7_power_26 : decode cX7_power 26 = .ok (.invokevirtual 133, 3) := by decide +kernel
theorem dX7_power_29 : decode cX7_power 29 = .ok (.invokevirtual 197, 3) := by decide +kernel
theorem dX7_power_32 : decode cX7_power 32 = .ok (.aload_n 0, 1) := by decide +kernel
theorem dX7_power_33 : decode cX7_power 33 = .ok (.getfield 57, 3) := by decide +kernel
theorem dX7_power_36 : decode cX7_power 36 = .ok (.invokevirtual 200, 3) := by decide +kernel
theorem dX7_power_39 : decode cX7_power 39 = .ok (.iload_n 2, 1) := by decide +kernel
theorem dX7_power_40 : decode cX7_power 40 = .ok (.invokestatic 203, 3) := by decide +kernel
theorem dX7_power_43 : decode cX7_power 43 = .ok (.ireturn, 1) := by decide +kernel
set_option maxRecDepth 20000 in
theorem ggX7_least_X7_noTerm : GoodIn wsX7_least wsX7_noTerm := goodIn_r _ [5] (by decide +kernel) (by decide +kernel)
set_option maxRecDepth 20000 in
theorem gX7_least_X7_noTerm : GoodIn wsX7_least (va_wsS RX7 194 yX7_noTerm wsX7_noTerm) := goodIn_app (goodIn_of _ (by decide +kernel)) ggX7_least_X7_noTerm
set_option maxRecDepth 20000 in
theorem ggX7_least_X4_leastSets : GoodIn wsX7_least wsX4_leastSets := goodIn_r _ [10, 11, 12, 13, 14, 15, 16, 17, 18, 19, 20, 21, 22, 23, 24, 25, 26, 27, 28, 29, 30, 31, 32, 33, 34, 35, 36, 37, 4, 38, 39, 40, 41, 9, 42, 43, 44, 45, 46, 47, 48, 49, 50, 51, 52, 53, 71, 72, 73, 74, 75, 76, 77, 78, 79, 80, 81, 82, 83, 84, 85, 86, 87] (by decide +kernel) (by decide +kernel)
set_option maxRecDepth 20000 in
theorem gX7_least_X4_leastSets : GoodIn wsX7_least (wsV RX7 207 RX4 yX4_leastSets wsX4_leastSets) := goodIn_app (goodIn_of _ (by decide +kernel)) ggX7_least_X4_leastSets
set_option maxRecDepth 20000 in
theorem ggX7_least_X4_firstLeastSet : GoodIn wsX7_least wsX4_firstLeastSet := goodIn_r _ [57, 11, 12, 13, 14, 15, 16, 17, 18, 19, 20, 21, 22, 23, 24, 25, 26, 27, 28, 29, 30, 31, 32, 33, 34, 35, 36, 37, 4, 38, 39, 40, 41, 9, 42, 43, 44, 45, 46, 47, 48, 49, 50, 51, 52, 53, 71, 72, 73, 74, 75, 76, 77, 78, 79, 80, 81, 82, 83, 84, 85, 86, 87] (by decide +kernel) (by decide +kernel)
set_option maxRecDepth 20000 in
theorem gX7_least_X4_firstLeastSet : GoodIn wsX7_least (wsV RX7 210 RX4 yX4_firstLeastSet wsX4_firstLeastSet) := goodIn_app (goodIn_of _ (by decide +kernel)) ggX7_least_X4_firstLeastSet
theorem dX7_least_0 : decode cX7_least 0 = .ok (.iload_n 1, 1) := by decide +kernel
theorem dX7_least_1 : decode cX7_least 1 = .ok (.invokestatic 194, 3) := by decide +kernel
theorem dX7_least_4 : decode cX7_least 4 = .ok (.ifCond .eq 5, 3) := by decide +kernel
theorem dX7_least_7 : decode cX7_least 7 = .ok (.iconst (-1), 1) := by decide +kernel
theorem dX7_least_8 : decode cX7_least 8 = .ok (.ireturn, 1) := by decide +kernel
theorem dX7_least_9 : decode cX7_least 9 = .ok (.iload_n 1, 1) := by decide +kernel
theorem dX7_least_10 : decode cX7_least 10 = .ok (.ifCond .ne 13, 3) := by decide +kernel
theorem dX7_least_13 : decode cX7_least 13 = .ok (.aload_n 0, 1) := by decide +kernel
theorem dX7_least_14 : decode cX7_least 14 = .ok (.getfield 57, 3) := by decide +kernel
theorem dX7_least_17 : decode cX7_least 17 = .ok (.invokevirtual 207, 3) := by decide +kernel
theorem dX7_least_20 : decode cX7_least 20 = .ok (.goto 10, 3) := by decide +kernel
theorem dX7_least_23 : decode cX7_least 23 = .ok (.aload_n 0, 1) := by decide +kernel
theorem dX7_least_24 : decode cX7_least 24 = .ok (.getfield 57, 3) := by decide +kernel
theorem dX7_least_27 : decode cX7_least 27 = .ok (.invokevirtual 210, 3) := by decide +kernel
theorem dX7_least_30 : decode cX7_least 30 = .ok (.ireturn, 1) := by decide +kernel
set_option maxRecDepth 20000 in
theorem ggX7_dummies_X4_powerless : GoodIn wsX7_dummies wsX4_powerless := goodIn_r _ [6, 7, 8, 9, 10, 11, 12, 13, 14, 15, 16, 17, 18, 19, 20, 21, 22, 23, 24, 25, 26, 27, 28, 29, 30, 31, 32, 33, 34, 35, 36, 37, 38, 5, 39, 40, 41, 42, 43, 44, 45, 46, 47, 48, 49, 50, 51, 52, 53, 54, 55, 56, 57, 58, 59, 60, 61, 75, 76, 77, 78, 79, 80, 81, 82, 83, 84, 85, 86, 87, 88, 89, 90, 91] (by decide +kernel) (by decide +kernel)
set_option maxRecDepth 20000 in
theorem gX7_dummies_X4_powerless : GoodIn wsX7_dummies (wsV RX7 213 RX4 yX4_powerless wsX4_powerless) := goodIn_app (goodIn_of _ (by decide +kernel)) ggX7_dummies_X4_powerless
theorem dX7_dummies_0 : decode cX7_dummies 0 = .ok (.aload_n 0, 1) := by decide +kernel
theorem dX7_dummies_1 : decode cX7_dummies 1 = .ok (.getfield 57, 3) := by decide +kernel
theorem dX7_dummies_4 : decode cX7_dummies 4 = .ok (.invokevirtual 213, 3) := by decide +kernel
theorem dX7_dummies_7 : decode cX7_dummies 7 = .ok (.ireturn, 1) := by decide +kernel
set_option maxRecDepth 20000 in
theorem ggX7_sways_X7_noBill : GoodIn wsX7_sways wsX7_noBill := goodIn_r _ [5] (by decide +kernel) (by decide +kernel)
set_option maxRecDepth 20000 in
theorem gX7_sways_X7_noBill : GoodIn wsX7_sways (va_wsS RX7 149 yX7_noBill wsX7_noBill) := goodIn_app (goodIn_of _ (by decide +kernel)) ggX7_sways_X7_noBill
set_option maxRecDepth 20000 in
theorem ggX7_sways_X6_swayers : GoodIn wsX7_sways wsX6_swayers := goodIn_r _ [10, 11, 12, 13, 14, 15, 9, 16, 17, 18, 19, 20, 21, 22, 23, 24, 25, 26, 27, 28, 29, 30, 31, 32, 33, 34, 35, 4, 36, 37, 38, 39, 40, 41, 42, 43, 44, 45, 46, 47, 48, 49, 50, 51, 65, 66, 67, 68, 69, 70, 71, 72, 73, 74, 75, 76, 77, 78, 79, 80] (by decide +kernel) (by decide +kernel)
set_option maxRecDepth 20000 in
theorem gX7_sways_X6_swayers : GoodIn wsX7_sways (wsV RX7 216 RX6 yX6_swayers wsX6_swayers) := goodIn_app (goodIn_of _ (by decide +kernel)) ggX7_sways_X6_swayers
theorem dX7_sways_0 : decode cX7_sways 0 = .ok (.iload_n 1, 1) := by decide +kernel
theorem dX7_sways_1 : decode cX7_sways 1 = .ok (.invokestatic 149, 3) := by decide +kernel
theorem dX7_sways_4 : decode cX7_sways 4 = .ok (.ifCond .eq 5, 3) := by decide +kernel
theorem dX7_sways_7 : decode cX7_sways 7 = .ok (.iconst (-1), 1) := by decide +kernel
theorem dX7_sways_8 : decode cX7_sways 8 = .ok (.ireturn, 1) := by decide +kernel
theorem dX7_sways_9 : decode cX7_sways 9 = .ok (.aload_n 0, 1) := by decide +kernel
theorem dX7_sways_10 : decode cX7_sways 10 = .ok (.getfield 48, 3) := by decide +kernel
theorem dX7_sways_13 : decode cX7_sways 13 = .ok (.iload_n 1, 1) := by decide +kernel
theorem dX7_sways_14 : decode cX7_sways 14 = .ok (.invokevirtual 216, 3) := by decide +kernel
theorem dX7_sways_17 : decode cX7_sways 17 = .ok (.ireturn, 1) := by decide +kernel
set_option maxRecDepth 20000 in
theorem ggX7_free_X6_voices : GoodIn wsX7_free wsX6_voices := goodIn_r _ [6, 7, 8, 9, 10, 11, 5, 12, 13, 14, 15, 16, 17, 18, 19, 20, 21, 22, 23, 24, 25, 26, 27, 28, 29, 63, 64, 65, 66, 67, 68, 69, 70, 71, 72, 73, 74, 75, 76, 77, 78] (by decide +kernel) (by decide +kernel)
set_option maxRecDepth 20000 in
theorem gX7_free_X6_voices : GoodIn wsX7_free (wsV RX7 133 RX6 yX6_voices wsX6_voices) := goodIn_app (goodIn_of _ (by decide +kernel)) ggX7_free_X6_voices
set_option maxRecDepth 20000 in
theorem ggX7_free_X6_swayers : GoodIn wsX7_free wsX6_swayers := goodIn_r _ [33, 17, 18, 34, 3, 4, 5, 6, 7, 8, 9, 10, 11, 12, 13, 14, 15, 16, 19, 20, 21, 22, 23, 24, 25, 26, 27, 28, 29, 35, 36, 37, 38, 39, 40, 41, 42, 43, 44, 45, 46, 47, 48, 49, 63, 64, 72, 73, 74, 75, 76, 77, 78, 65, 66, 67, 68, 69, 70, 71] (by decide +kernel) (by decide +kernel)
set_option maxRecDepth 20000 in
theorem gX7_free_X6_swayers : GoodIn wsX7_free (wsV RX7 216 RX6 yX6_swayers wsX6_swayers) := goodIn_app (goodIn_of _ (by decide +kernel)) ggX7_free_X6_swayers
theorem dX7_free_0 : decode cX7_free 0 = .ok (.aload_n 0, 1) := by decide +kernel
theorem dX7_free_1 : decode cX7_free 1 = .ok (.getfield 48, 3) := by decide +kernel
theorem dX7_free_4 : decode cX7_free 4 = .ok (.invokevirtual 133, 3) := by decide +kernel
theorem dX7_free_7 : decode cX7_free 7 = .ok (.istore_n 1, 1) := by decide +kernel
theorem dX7_free_8 : decode cX7_free 8 = .ok (.iconst 0, 1) := by decide +kernel
theorem dX7_free_9 : decode cX7_free 9 = .ok (.istore_n 2, 1) := by decide +kernel
theorem dX7_free_10 : decode cX7_free 10 = .ok (.iload_n 2, 1) := by decide +kernel
theorem dX7_free_11 : decode cX7_free 11 = .ok (.iconst 5, 1) := by decide +kernel
theorem dX7_free_12 : decode cX7_free 12 = .ok (.if_icmp .ge 22, 3) := by decide +kernel
theorem dX7_free_15 : decode cX7_free 15 = .ok (.iload_n 1, 1) := by decide +kernel
theorem dX7_free_16 : decode cX7_free 16 = .ok (.aload_n 0, 1) := by decide +kernel
theorem dX7_free_17 : decode cX7_free 17 = .ok (.getfield 48, 3) := by decide +kernel
theorem dX7_free_20 : decode cX7_free 20 = .ok (.iload_n 2, 1) := by decide +kernel
theorem dX7_free_21 : decode cX7_free 21 = .ok (.invokevirtual 216, 3) := by decide +kernel
theorem dX7_free_24 : decode cX7_free 24 = .ok (.iconst (-1), 1) := by decide +kernel
theorem dX7_free_25 : decode cX7_free 25 = .ok (.ixor, 1) := by decide +kernel
theorem dX7_free_26 : decode cX7_free 26 = .ok (.iand, 1) := by decide +kernel
theorem dX7_free_27 : decode cX7_free 27 = .ok (.istore_n 1, 1) := by decide +kernel
theorem dX7_free_28 : decode cX7_free 28 = .ok (.iinc 2 1, 3) := by decide +kernel
theorem dX7_free_31 : decode cX7_free 31 = .ok (.goto (-21), 3) := by decide +kernel
theorem dX7_free_34 : decode cX7_free 34 = .ok (.iload_n 1, 1) := by decide +kernel
theorem dX7_free_35 : decode cX7_free 35 = .ok (.ireturn, 1) := by decide +kernel
set_option maxRecDepth 20000 in
theorem ggX7_turn_X7_noBill : GoodIn wsX7_turn wsX7_noBill := goodIn_r _ [5] (by decide +kernel) (by decide +kernel)
set_option maxRecDepth 20000 in
theorem gX7_turn_X7_noBill : GoodIn wsX7_turn (va_wsS RX7 149 yX7_noBill wsX7_noBill) := goodIn_app (goodIn_of _ (by decide +kernel)) ggX7_turn_X7_noBill
set_option maxRecDepth 20000 in
theorem ggX7_turn_X6_fewestTurned : GoodIn wsX7_turn wsX6_fewestTurned := goodIn_r _ [10, 11, 12, 13, 9, 14, 15, 16, 17, 18, 19, 20, 21, 22, 23, 24, 25, 26, 27, 28, 29, 30, 31, 32, 33, 34, 35, 4, 36, 37, 38, 39, 40, 41, 42, 43, 44, 45, 46, 47, 48, 49, 50, 51, 52, 53, 54, 55, 56, 57, 58, 59, 60, 61, 62, 63, 77, 78, 79, 80, 81, 82, 83, 84, 85, 86, 87, 88, 89, 90, 91, 92] (by decide +kernel) (by decide +kernel)
set_option maxRecDepth 20000 in
theorem gX7_turn_X6_fewestTurned : GoodIn wsX7_turn (wsV RX7 219 RX6 yX6_fewestTurned wsX6_fewestTurned) := goodIn_app (goodIn_of _ (by decide +kernel)) ggX7_turn_X6_fewestTurned
theorem dX7_turn_0 : decode cX7_turn 0 = .ok (.iload_n 1, 1) := by decide +kernel
theorem dX7_turn_1 : decode cX7_turn 1 = .ok (.invokestatic 149, 3) := by decide +kernel
theorem dX7_turn_4 : decode cX7_turn 4 = .ok (.ifCond .eq 5, 3) := by decide +kernel
theorem dX7_turn_7 : decode cX7_turn 7 = .ok (.iconst (-1), 1) := by decide +kernel
theorem dX7_turn_8 : decode cX7_turn 8 = .ok (.ireturn, 1) := by decide +kernel
theorem dX7_turn_9 : decode cX7_turn 9 = .ok (.aload_n 0, 1) := by decide +kernel
theorem dX7_turn_10 : decode cX7_turn 10 = .ok (.getfield 48, 3) := by decide +kernel
theorem dX7_turn_13 : decode cX7_turn 13 = .ok (.iload_n 1, 1) := by decide +kernel
theorem dX7_turn_14 : decode cX7_turn 14 = .ok (.invokevirtual 219, 3) := by decide +kernel
theorem dX7_turn_17 : decode cX7_turn 17 = .ok (.ireturn, 1) := by decide +kernel
set_option maxRecDepth 20000 in
theorem ggX7_hand_X7_noBill : GoodIn wsX7_hand wsX7_noBill := goodIn_r _ [5] (by decide +kernel) (by decide +kernel)
set_option maxRecDepth 20000 in
theorem gX7_hand_X7_noBill : GoodIn wsX7_hand (va_wsS RX7 149 yX7_noBill wsX7_noBill) := goodIn_app (goodIn_of _ (by decide +kernel)) ggX7_hand_X7_noBill
set_option maxRecDepth 20000 in
theorem ggX7_hand_X6_fewestHanded : GoodIn wsX7_hand wsX6_fewestHanded := goodIn_r _ [10, 11, 12, 13, 14, 15, 9, 16, 17, 18, 19, 20, 21, 22, 23, 24, 25, 26, 27, 28, 29, 30, 31, 32, 33, 34, 35, 4, 36, 37, 38, 39, 40, 41, 42, 43, 44, 45, 46, 47, 48, 49, 50, 51, 52, 53, 54, 55, 56, 57, 58, 59, 60, 61, 62, 63, 64, 65, 66, 67, 68, 82, 83, 84, 85, 86, 87, 88, 89, 90, 91, 92, 93, 94, 95, 96, 97] (by decide +kernel) (by decide +kernel)
set_option maxRecDepth 20000 in
theorem gX7_hand_X6_fewestHanded : GoodIn wsX7_hand (wsV RX7 222 RX6 yX6_fewestHanded wsX6_fewestHanded) := goodIn_app (goodIn_of _ (by decide +kernel)) ggX7_hand_X6_fewestHanded
theorem dX7_hand_0 : decode cX7_hand 0 = .ok (.iload_n 1, 1) := by decide +kernel
theorem dX7_hand_1 : decode cX7_hand 1 = .ok (.invokestatic 149, 3) := by decide +kernel
theorem dX7_hand_4 : decode cX7_hand 4 = .ok (.ifCond .eq 5, 3) := by decide +kernel
theorem dX7_hand_7 : decode cX7_hand 7 = .ok (.iconst (-1), 1) := by decide +kernel
theorem dX7_hand_8 : decode cX7_hand 8 = .ok (.ireturn, 1) := by decide +kernel
theorem dX7_hand_9 : decode cX7_hand 9 = .ok (.aload_n 0, 1) := by decide +kernel
theorem dX7_hand_10 : decode cX7_hand 10 = .ok (.getfield 48, 3) := by decide +kernel
theorem dX7_hand_13 : decode cX7_hand 13 = .ok (.iload_n 1, 1) := by decide +kernel
theorem dX7_hand_14 : decode cX7_hand 14 = .ok (.invokevirtual 222, 3) := by decide +kernel
theorem dX7_hand_17 : decode cX7_hand 17 = .ok (.ireturn, 1) := by decide +kernel
set_option maxRecDepth 20000 in
theorem ggX7_swaps_X7_noBill : GoodIn wsX7_swaps wsX7_noBill := goodIn_r _ [5] (by decide +kernel) (by decide +kernel)
set_option maxRecDepth 20000 in
theorem gX7_swaps_X7_noBill : GoodIn wsX7_swaps (va_wsS RX7 149 yX7_noBill wsX7_noBill) := goodIn_app (goodIn_of _ (by decide +kernel)) ggX7_swaps_X7_noBill
set_option maxRecDepth 20000 in
theorem ggX7_swaps_X6_changingSwaps : GoodIn wsX7_swaps wsX6_changingSwaps := goodIn_r _ [10, 11, 12, 13, 14, 15, 16, 17, 18, 9, 19, 20, 21, 22, 23, 24, 25, 26, 27, 4, 28, 29, 30, 31, 32, 33, 34, 35, 36, 37, 38, 39, 40, 41, 42, 43, 44, 45, 46, 60, 61, 62, 63, 64, 65, 66, 67, 68, 69, 70, 71, 72, 73, 74, 75] (by decide +kernel) (by decide +kernel)
set_option maxRecDepth 20000 in
theorem gX7_swaps_X6_changingSwaps : GoodIn wsX7_swaps (wsV RX7 225 RX6 yX6_changingSwaps wsX6_changingSwaps) := goodIn_app (goodIn_of _ (by decide +kernel)) ggX7_swaps_X6_changingSwaps
theorem dX7_swaps_0 : decode cX7_swaps 0 = .ok (.iload_n 1, 1) := by decide +kernel
theorem dX7_swaps_1 : decode cX7_swaps 1 = .ok (.invokestatic 149, 3) := by decide +kernel
theorem dX7_swaps_4 : decode cX7_swaps 4 = .ok (.ifCond .eq 5, 3) := by decide +kernel
theorem dX7_swaps_7 : decode cX7_swaps 7 = .ok (.iconst (-1), 1) := by decide +kernel
theorem dX7_swaps_8 : decode cX7_swaps 8 = .ok (.ireturn, 1) := by decide +kernel
theorem dX7_swaps_9 : decode cX7_swaps 9 = .ok (.aload_n 0, 1) := by decide +kernel
theorem dX7_swaps_10 : decode cX7_swaps 10 = .ok (.getfield 48, 3) := by decide +kernel
theorem dX7_swaps_13 : decode cX7_swaps 13 = .ok (.iload_n 1, 1) := by decide +kernel
theorem dX7_swaps_14 : decode cX7_swaps 14 = .ok (.invokevirtual 225, 3) := by decide +kernel
theorem dX7_swaps_17 : decode cX7_swaps 17 = .ok (.ireturn, 1) := by decide +kernel
set_option maxRecDepth 20000 in
theorem ggX7_record_X7_noBill : GoodIn wsX7_record wsX7_noBill := goodIn_r _ [6] (by decide +kernel) (by decide +kernel)
set_option maxRecDepth 20000 in
theorem gX7_record_X7_noBill : GoodIn wsX7_record (va_wsS RX7 149 yX7_noBill wsX7_noBill) := goodIn_app (goodIn_of _ (by decide +kernel)) ggX7_record_X7_noBill
set_option maxRecDepth 20000 in
theorem ggX7_record_X1_write : GoodIn wsX7_record wsX1_write := goodIn_r _ [11, 12, 13, 14, 28, 29, 30, 31] (by decide +kernel) (by decide +kernel)
set_option maxRecDepth 20000 in
theorem gX7_record_X1_write : GoodIn wsX7_record (wsV RX7 231 RX1 yX1_write wsX1_write) := goodIn_app (goodIn_of _ (by decide +kernel)) ggX7_record_X1_write
theorem dX7_record_0 : decode cX7_record 0 = .ok (.iload_n 1, 1) := by decide +kernel
theorem dX7_record_1 : decode cX7_record 1 = .ok (.invokestatic 149, 3) := by decide +kernel
theorem dX7_record_4 : decode cX7_record 4 = .ok (.ifCond .ne 12, 3) := by decide +kernel
theorem dX7_record_7 : decode cX7_record 7 = .ok (.iload_n 2, 1) := by decide +kernel
theorem dX7_record_8 : decode cX7_record 8 = .ok (.ifCond .lt 8, 3) := by decide +kernel
theorem dX7_record_11 : decode cX7_record 11 = .ok (.iload_n 2, 1) := by decide +kernel
theorem dX7_record_12 : decode cX7_record 12 = .ok (.iconst 1, 1) := by decide +kernel
theorem dX7_record_13 : decode cX7_record 13 = .ok (.if_icmp .le 5, 3) := by decide +kernel
theorem dX7_record_16 : decode cX7_record 16 = .ok (.iconst (-1), 1) := by decide +kernel
theorem dX7_record_17 : decode cX7_record 17 = .ok (.ireturn, 1) := by decide +kernel
theorem dX7_record_18 : decode cX7_record 18 = .ok (.aload_n 0, 1) := by decide +kernel
theorem dX7_record_19 : decode cX7_record 19 = .ok (.getfield 64, 3) := by decide +kernel
theorem dX7_record_22 : decode cX7_record 22 = .ok (.getfield 228, 3) := by decide +kernel
theorem dX7_record_25 : decode cX7_record 25 = .ok (.bipush 6, 2) := by decide +kernel
theorem dX7_record_27 : decode cX7_record 27 = .ok (.if_icmp .lt 6, 3) := by decide +kernel
theorem dX7_record_30 : decode cX7_record 30 = .ok (.bipush (-3), 2) := by decide +kernel
theorem dX7_record_32 : decode cX7_record 32 = .ok (.ireturn, 1) := by decide +kernel
theorem dX7_record_33 : decode cX7_record 33 = .ok (.aload_n 0, 1) := by decide +kernel
theorem dX7_record_34 : decode cX7_record 34 = .ok (.getfield 64, 3) := by decide +kernel
theorem dX7_record_37 : decode cX7_record 37 = .ok (.iload_n 1, 1) := by decide +kernel
theorem dX7_record_38 : decode cX7_record 38 = .ok (.iload_n 2, 1) := by decide +kernel
theorem dX7_record_39 : decode cX7_record 39 = .ok (.iconst 1, 1) := by decide +kernel
theorem dX7_record_40 : decode cX7_record 40 = .ok (.if_icmp .ne 7, 3) := by decide +kernel
theorem dX7_record_43 : decode cX7_record 43 = .ok (.iconst 1, 1) := by decide +kernel
theorem dX7_record_44 : decode cX7_record 44 = .ok (.goto 4, 3) := by decide +kernel
theorem dX7_record_47 : decode cX7_record 47 = .ok (.iconst 0, 1) := by decide +kernel
theorem dX7_record_48 : decode cX7_record 48 = .ok (.invokevirtual 231, 3) := by decide +kernel
theorem dX7_record_51 : decode cX7_record 51 = .ok (.aload_n 0, 1) := by decide +kernel
theorem dX7_record_52 : decode cX7_record 52 = .ok (.getfield 64, 3) := by decide +kernel
theorem dX7_record_55 : decode cX7_record 55 = .ok (.getfield 228, 3) := by decide +kernel
theorem dX7_record_58 : decode cX7_record 58 = .ok (.ireturn, 1) := by decide +kernel
set_option maxRecDepth 20000 in
theorem ggX7_forget_X1_tearUp : GoodIn wsX7_forget wsX1_tearUp := goodIn_r _ [7, 8, 22, 23, 24, 25] (by decide +kernel) (by decide +kernel)
set_option maxRecDepth 20000 in
theorem gX7_forget_X1_tearUp : GoodIn wsX7_forget (wsV RX7 97 RX1 yX1_tearUp wsX1_tearUp) := goodIn_app (goodIn_of _ (by decide +kernel)) ggX7_forget_X1_tearUp
theorem dX7_forget_0 : decode cX7_forget 0 = .ok (.aload_n 0, 1) := by decide +kernel
theorem dX7_forget_1 : decode cX7_forget 1 = .ok (.getfield 64, 3) := by decide +kernel
theorem dX7_forget_4 : decode cX7_forget 4 = .ok (.getfield 228, 3) := by decide +kernel
theorem dX7_forget_7 : decode cX7_forget 7 = .ok (.istore_n 1, 1) := by decide +kernel
theorem dX7_forget_8 : decode cX7_forget 8 = .ok (.aload_n 0, 1) := by decide +kernel
theorem dX7_forget_9 : decode cX7_forget 9 = .ok (.getfield 64, 3) := by decide +kernel
theorem dX7_forget_12 : decode cX7_forget 12 = .ok (.invokevirtual 97, 3) := by decide +kernel
theorem dX7_forget_15 : decode cX7_forget 15 = .ok (.iload_n 1, 1) := by decide +kernel
theorem dX7_forget_16 : decode cX7_forget 16 = .ok (.ireturn, 1) := by decide +kernel
set_option maxRecDepth 20000 in
theorem ggX7_isFor_X7_noThing : GoodIn wsX7_isFor wsX7_noThing := goodIn_r _ [6, 7, 8, 75, 76, 77, 78, 79, 80, 81, 82, 83, 84, 85, 86, 87, 88, 89, 90, 91, 92, 93, 94] (by decide +kernel) (by decide +kernel)
set_option maxRecDepth 20000 in
theorem gX7_isFor_X7_noThing : GoodIn wsX7_isFor (wsV RX7 103 RX7 yX7_noThing wsX7_noThing) := goodIn_app (goodIn_of _ (by decide +kernel)) ggX7_isFor_X7_noThing
set_option maxRecDepth 20000 in
theorem ggX7_isFor_X7_noTerm : GoodIn wsX7_isFor wsX7_noTerm := goodIn_r _ [11] (by decide +kernel) (by decide +kernel)
set_option maxRecDepth 20000 in
theorem gX7_isFor_X7_noTerm : GoodIn wsX7_isFor (va_wsS RX7 194 yX7_noTerm wsX7_noTerm) := goodIn_app (goodIn_of _ (by decide +kernel)) ggX7_isFor_X7_noTerm
set_option maxRecDepth 20000 in
theorem ggX7_isFor_X1_possibleSets : GoodIn wsX7_isFor wsX1_possibleSets := goodIn_r _ [16, 17, 18, 19, 20, 21, 22, 23, 24, 25, 26, 27, 28, 29, 30, 31, 32, 33, 34, 35, 36, 37, 38, 39, 40, 41, 42, 43, 5, 44, 45, 46, 47, 15, 48, 49, 50, 51, 52, 53, 54, 55, 56, 57, 58, 59, 60, 61, 62, 63, 64, 65, 66, 67, 68, 69, 70, 95, 96, 97, 98, 99, 100, 101, 102, 103, 104, 105, 106, 107, 88, 89, 90, 91, 92, 93, 94] (by decide +kernel) (by decide +kernel)
set_option maxRecDepth 20000 in
theorem gX7_isFor_X1_possibleSets : GoodIn wsX7_isFor (wsV RX7 235 RX1 yX1_possibleSets wsX1_possibleSets) := goodIn_app (goodIn_of _ (by decide +kernel)) ggX7_isFor_X1_possibleSets
set_option maxRecDepth 20000 in
theorem ggX7_isFor_X1_leastPossibleSet : GoodIn wsX7_isFor wsX1_leastPossibleSet := goodIn_r _ [74, 17, 18, 19, 20, 21, 22, 23, 24, 25, 26, 27, 28, 29, 30, 31, 32, 33, 34, 35, 36, 37, 38, 39, 40, 41, 42, 43, 5, 44, 45, 46, 47, 15, 48, 49, 50, 51, 52, 53, 54, 55, 56, 57, 58, 59, 60, 61, 62, 63, 64, 65, 66, 67, 68, 69, 70, 95, 96, 97, 98, 99, 100, 101, 102, 103, 104, 105, 106, 107, 88, 89, 90, 91, 92, 93, 94] (by decide +kernel) (by decide +kernel)
set_option maxRecDepth 20000 in
theorem gX7_isFor_X1_leastPossibleSet : GoodIn wsX7_isFor (wsV RX7 238 RX1 yX1_leastPossibleSet wsX1_leastPossibleSet) := goodIn_app (goodIn_of _ (by decide +kernel)) ggX7_isFor_X1_leastPossibleSet
theorem dX7_isFor_0 : decode cX7_isFor 0 = .ok (.aload_n 0, 1) := by decide +kernel
theorem dX7_isFor_1 : decode cX7_isFor 1 = .ok (.iload_n 1, 1) := by decide +kernel
theorem dX7_isFor_2 : decode cX7_isFor 2 = .ok (.invokevirtual 103, 3) := by decide +kernel
theorem dX7_isFor_5 : decode cX7_isFor 5 = .ok (.ifCond .ne 10, 3) := by decide +kernel
theorem dX7_isFor_8 : decode cX7_isFor 8 = .ok (.iload_n 2, 1) := by decide +kernel
theorem dX7_isFor_9 : decode cX7_isFor 9 = .ok (.invokestatic 194, 3) := by decide +kernel
theorem dX7_isFor_12 : decode cX7_isFor 12 = .ok (.ifCond .eq 5, 3) := by decide +kernel
theorem dX7_isFor_15 : decode cX7_isFor 15 = .ok (.iconst (-1), 1) := by decide +kernel
theorem dX7_isFor_16 : decode cX7_isFor 16 = .ok (.ireturn, 1) := by decide +kernel
theorem dX7_isFor_17 : decode cX7_isFor 17 = .ok (.iload_n 2, 1) := by decide +kernel
theorem dX7_isFor_18 : decode cX7_isFor 18 = .ok (.ifCond .ne 14, 3) := by decide +kernel
theorem dX7_isFor_21 : decode cX7_isFor 21 = .ok (.aload_n 0, 1) := by decide +kernel
theorem dX7_isFor_22 : decode cX7_isFor 22 = .ok (.getfield 64, 3) := by decide +kernel
theorem dX7_isFor_25 : decode cX7_isFor 25 = .ok (.iload_n 1, 1) := by decide +kernel
theorem dX7_isFor_26 : decode cX7_isFor 26 = .ok (.invokevirtual 235, 3) := by decide +kernel
theorem dX7_isFor_29 : decode cX7_isFor 29 = .ok (.goto 11, 3) := by decide +kernel
theorem dX7_isFor_32 : decode cX7_isFor 32 = .ok (.aload_n 0, 1) := by decide +kernel
theorem dX7_isFor_33 : decode cX7_isFor 33 = .ok (.getfield 64, 3) := by decide +kernel
theorem dX7_isFor_36 : decode cX7_isFor 36 = .ok (.iload_n 1, 1) := by decide +kernel
theorem dX7_isFor_37 : decode cX7_isFor 37 = .ok (.invokevirtual 238, 3) := by decide +kernel
theorem dX7_isFor_40 : decode cX7_isFor 40 = .ok (.ireturn, 1) := by decide +kernel
set_option maxRecDepth 20000 in
theorem ggX7_who_X1_possiblySick : GoodIn wsX7_who wsX1_possiblySick := goodIn_r _ [6, 7, 8, 9, 10, 11, 12, 5, 13, 14, 15, 16, 17, 18, 19, 20, 21, 22, 23, 24, 25, 26, 27, 28, 29, 30, 31, 32, 33, 34, 35, 36, 37, 38, 39, 40, 41, 42, 43, 44, 45, 46, 47, 48, 49, 50, 51, 52, 53, 54, 68, 69, 70, 71, 72, 73, 74, 75, 76, 77, 78, 79, 80, 81, 82, 83, 84, 85, 86, 87] (by decide +kernel) (by decide +kernel)
set_option maxRecDepth 20000 in
theorem gX7_who_X1_possiblySick : GoodIn wsX7_who (wsV RX7 241 RX1 yX1_possiblySick wsX1_possiblySick) := goodIn_app (goodIn_of _ (by decide +kernel)) ggX7_who_X1_possiblySick
theorem dX7_who_0 : decode cX7_who 0 = .ok (.aload_n 0, 1) := by decide +kernel
theorem dX7_who_1 : decode cX7_who 1 = .ok (.getfield 64, 3) := by decide +kernel
theorem dX7_who_4 : decode cX7_who 4 = .ok (.invokevirtual 241, 3) := by decide +kernel
theorem dX7_who_7 : decode cX7_who 7 = .ok (.ireturn, 1) := by decide +kernel
set_option maxRecDepth 20000 in
theorem ggX7_odds_X7_noBill : GoodIn wsX7_odds wsX7_noBill := goodIn_r _ [5] (by decide +kernel) (by decide +kernel)
set_option maxRecDepth 20000 in
theorem gX7_odds_X7_noBill : GoodIn wsX7_odds (va_wsS RX7 149 yX7_noBill wsX7_noBill) := goodIn_app (goodIn_of _ (by decide +kernel)) ggX7_odds_X7_noBill
set_option maxRecDepth 20000 in
theorem ggX7_odds_X7_noTerm : GoodIn wsX7_odds wsX7_noTerm := goodIn_r _ [8] (by decide +kernel) (by decide +kernel)
set_option maxRecDepth 20000 in
theorem gX7_odds_X7_noTerm : GoodIn wsX7_odds (va_wsS RX7 194 yX7_noTerm wsX7_noTerm) := goodIn_app (goodIn_of _ (by decide +kernel)) ggX7_odds_X7_noTerm
set_option maxRecDepth 20000 in
theorem ggX7_odds_X6_chancesToPass : GoodIn wsX7_odds wsX6_chancesToPass := goodIn_r _ [13, 14, 15, 16, 17, 18, 12, 19, 20, 21, 22, 23, 24, 4, 25, 26, 27, 28, 29, 30, 31, 32, 33, 34, 35, 36, 37, 38, 39, 40, 41, 42, 43, 44, 45, 46, 47, 48, 49, 50, 51, 52, 53, 54, 78, 79, 80, 81, 82, 83, 84, 85, 86, 87, 88, 89, 90, 91, 92, 93] (by decide +kernel) (by decide +kernel)
set_option maxRecDepth 20000 in
theorem gX7_odds_X6_chancesToPass : GoodIn wsX7_odds (wsV RX7 244 RX6 yX6_chancesToPass wsX6_chancesToPass) := goodIn_app (goodIn_of _ (by decide +kernel)) ggX7_odds_X6_chancesToPass
set_option maxRecDepth 20000 in
theorem ggX7_odds_X6_chances : GoodIn wsX7_odds wsX6_chances := goodIn_r _ [58, 14, 15, 78, 79, 80, 81, 82, 83, 84, 85, 86] (by decide +kernel) (by decide +kernel)
set_option maxRecDepth 20000 in
theorem gX7_odds_X6_chances : GoodIn wsX7_odds (wsV RX7 247 RX6 yX6_chances wsX6_chances) := goodIn_app (goodIn_of _ (by decide +kernel)) ggX7_odds_X6_chances
set_option maxRecDepth 20000 in
theorem ggX7_odds_X7_term : GoodIn wsX7_odds wsX7_term := goodIn_r _ [61, 62, 63, 4, 64] (by decide +kernel) (by decide +kernel)
set_option maxRecDepth 20000 in
theorem gX7_odds_X7_term : GoodIn wsX7_odds (va_wsS RX7 203 yX7_term wsX7_term) := goodIn_app (goodIn_of _ (by decide +kernel)) ggX7_odds_X7_term
theorem dX7_odds_0 : decode cX7_odds 0 = .ok (.iload_n 1, 1) := by decide +kernel
theorem dX7_odds_1 : decode cX7_odds 1 = .ok (.invokestatic 149, 3) := by decide +kernel
theorem dX7_odds_4 : decode cX7_odds 4 = .ok (.ifCond .ne 20, 3) := by decide +kernel
theorem dX7_odds_7 : decode cX7_odds 7 = .ok (.iload_n 2, 1) := by decide +kernel
theorem dX7_odds_8 : decode cX7_odds 8 = .ok (.ifCond .lt 16, 3) := by decide +kernel
theorem dX7_odds_11 : decode cX7_odds 11 = .ok (.iload_n 2, 1) := by decide +kernel
theorem dX7_odds_12 : decode cX7_odds 12 = .ok (.bipush 10, 2) := by decide +kernel
theorem dX7_odds_14 : decode cX7_odds 14 = .ok (.if_icmp .gt 10, 3) := by decide +kernel
theorem dX7_odds_17 : decode cX7_odds 17 = .ok (.iload_n 3, 1) := by decide +kernel
theorem dX7_odds_18 : decode cX7_odds 18 = .ok (.invokestatic 194, 3) := by decide +kernel
theorem dX7_odds_21 : decode cX7_odds 21 = .ok (.ifCond .eq 5, 3) := by decide +kernel
theorem dX7_odds_24 : decode cX7_odds 24 = .ok (.iconst (-1), 1) := by decide +kernel
theorem dX7_odds_25 : decode cX7_odds 25 = .ok (.ireturn, 1) := by decide +kernel
theorem dX7_odds_26 : decode cX7_odds 26 = .ok (.aload_n 0, 1) := by decide +kernel
theorem dX7_odds_27 : decode cX7_odds 27 = .ok (.getfield 48, 3) := by decide +kernel
theorem dX7_odds_30 : decode cX7_odds 30 = .ok (.iload_n 1, 1) := by decide +kernel
theorem dX7_odds_31 : decode cX7_odds 31 = .ok (.iload_n 2, 1) := by decide +kernel
theorem dX7_odds_32 : decode cX7_odds 32 = .ok (.invokevirtual 244, 3) := by decide +kernel
theorem dX7_odds_35 : decode cX7_odds 35 = .ok (.aload_n 0, 1) := by decide +kernel
theorem dX7_odds_36 : decode cX7_odds 36 = .ok (.getfield 48, 3) := by decide +kernel
theorem dX7_odds_39 : decode cX7_odds 39 = .ok (.invokevirtual 247, 3) := by decide +kernel
theorem dX7_odds_42 : decode cX7_odds 42 = .ok (.iload_n 3, 1) := by decide +kernel
theorem dX7_odds_43 : decode cX7_odds 43 = .ok (.invokestatic 203, 3) := by decide +kernel
theorem dX7_odds_46 : decode cX7_odds 46 = .ok (.ireturn, 1) := by decide +kernel
set_option maxRecDepth 20000 in
theorem ggX7_rate_X7_noThing : GoodIn wsX7_rate wsX7_noThing := goodIn_r _ [6, 7, 8, 51, 52, 53, 54, 55, 56, 57, 58, 59, 60, 61, 62, 63, 64, 65, 66, 67, 68, 69, 70] (by decide +kernel) (by decide +kernel)
set_option maxRecDepth 20000 in
theorem gX7_rate_X7_noThing : GoodIn wsX7_rate (wsV RX7 103 RX7 yX7_noThing wsX7_noThing) := goodIn_app (goodIn_of _ (by decide +kernel)) ggX7_rate_X7_noThing
set_option maxRecDepth 20000 in
theorem ggX7_rate_X7_asThing : GoodIn wsX7_rate wsX7_asThing := goodIn_r _ [12, 13, 7, 14, 51, 52, 53, 54, 55, 56, 57, 58, 59, 60, 61, 62, 63, 64, 65, 66, 67, 68, 69, 70] (by decide +kernel) (by decide +kernel)
set_option maxRecDepth 20000 in
theorem gX7_rate_X7_asThing : GoodIn wsX7_rate (wsV RX7 251 RX7 yX7_asThing wsX7_asThing) := goodIn_app (goodIn_of _ (by decide +kernel)) ggX7_rate_X7_asThing
set_option maxRecDepth 20000 in
theorem ggX7_rate_X7_asSceptre : GoodIn wsX7_rate wsX7_asSceptre := goodIn_r _ [18, 13, 19, 7, 20, 9, 10, 11, 5, 12, 14, 21, 22, 23, 24, 25, 26, 27, 51, 52, 53, 54, 55, 56, 57, 58, 59, 60, 61, 62, 63, 64, 65, 66, 67, 68, 69, 70] (by decide +kernel) (by decide +kernel)
set_option maxRecDepth 20000 in
theorem gX7_rate_X7_asSceptre : GoodIn wsX7_rate (wsV RX7 254 RX7 yX7_asSceptre wsX7_asSceptre) := goodIn_app (goodIn_of _ (by decide +kernel)) ggX7_rate_X7_asSceptre
set_option maxRecDepth 20000 in
theorem ggX7_rate_X7_asOrb : GoodIn wsX7_rate wsX7_asOrb := goodIn_r _ [31, 13, 32, 33, 34, 9, 10, 11, 5, 12, 7, 14, 51, 52, 53, 54, 55, 56, 57, 58, 59, 60, 61, 62, 63, 71, 72, 73, 74, 75, 76, 77, 64, 65, 66, 67, 68, 69, 70] (by decide +kernel) (by decide +kernel)
set_option maxRecDepth 20000 in
theorem gX7_rate_X7_asOrb : GoodIn wsX7_rate (wsV RX7 257 RX7 yX7_asOrb wsX7_asOrb) := goodIn_app (goodIn_of _ (by decide +kernel)) ggX7_rate_X7_asOrb
set_option maxRecDepth 20000 in
theorem ggX7_rate_X7_asRing : GoodIn wsX7_rate wsX7_asRing := goodIn_r _ [38, 13, 39, 15, 16, 17, 5, 18, 19, 7, 20, 9, 10, 11, 12, 14, 21, 22, 23, 24, 25, 26, 27, 51, 52, 53, 54, 55, 56, 57, 58, 59, 60, 61, 62, 63, 64, 65, 66, 67, 68, 69, 70] (by decide +kernel) (by decide +kernel)
set_option maxRecDepth 20000 in
theorem gX7_rate_X7_asRing : GoodIn wsX7_rate (wsV RX7 260 RX7 yX7_asRing wsX7_asRing) := goodIn_app (goodIn_of _ (by decide +kernel)) ggX7_rate_X7_asRing
set_option maxRecDepth 20000 in
theorem ggX7_rate_X7_asSeal : GoodIn wsX7_rate wsX7_asSeal := goodIn_r _ [43, 13, 44, 28, 29, 30, 5, 31, 32, 33, 34, 9, 10, 11, 12, 7, 14, 51, 52, 53, 54, 55, 56, 57, 58, 59, 60, 61, 62, 63, 71, 72, 73, 74, 75, 76, 77, 64, 65, 66, 67, 68, 69, 70] (by decide +kernel) (by decide +kernel)
set_option maxRecDepth 20000 in
theorem gX7_rate_X7_asSeal : GoodIn wsX7_rate (wsV RX7 263 RX7 yX7_asSeal wsX7_asSeal) := goodIn_app (goodIn_of _ (by decide +kernel)) ggX7_rate_X7_asSeal
set_option maxRecDepth 20000 in
theorem ggX7_rate_X7_asSpoon : GoodIn wsX7_rate wsX7_asSpoon := goodIn_r _ [48, 13, 49, 33, 50, 9, 10, 11, 5, 12, 7, 14, 51, 52, 53, 54, 55, 56, 57, 58, 59, 60, 61, 62, 63, 71, 72, 73, 74, 75, 76, 77, 64, 65, 66, 67, 68, 69, 70] (by decide +kernel) (by decide +kernel)
set_option maxRecDepth 20000 in
theorem gX7_rate_X7_asSpoon : GoodIn wsX7_rate (wsV RX7 266 RX7 yX7_asSpoon wsX7_asSpoon) := goodIn_app (goodIn_of _ (by decide +kernel)) ggX7_rate_X7_asSpoon
theorem dX7_rate_0 : decode cX7_rate 0 = .ok (.aload_n 0, 1) := by decide +kernel
theorem dX7_rate_1 : decode cX7_rate 1 = .ok (.iload_n 2, 1) := by decide +kernel
theorem dX7_rate_2 : decode cX7_rate 2 = .ok (.invokevirtual 103, 3) := by decide +kernel
theorem dX7_rate_5 : decode cX7_rate 5 = .ok (.ifCond .eq 6, 3) := by decide +kernel
theorem dX7_rate_8 : decode cX7_rate 8 = .ok (.ldc 250, 2) := by decide +kernel
theorem dX7_rate_10 : decode cX7_rate 10 = .ok (.ireturn, 1) := by decide +kernel
theorem dX7_rate_11 : decode cX7_rate 11 = .ok (.iload_n 1, 1) := by decide +kernel
theorem dX7_rate_12 : decode cX7_rate 12 = .ok (.tableswitch 76 0 5 #[40, 46, 52, 58, 64, 70], 40) := by decide +kernel
theorem dX7_rate_52 : decode cX7_rate 52 = .ok (.aload_n 0, 1) := by decide +kernel
theorem dX7_rate_53 : decode cX7_rate 53 = .ok (.iload_n 2, 1) := by decide +kernel
theorem dX7_rate_54 : decode cX7_rate 54 = .ok (.invokevirtual 251, 3) := by decide +kernel
theorem dX7_rate_57 : decode cX7_rate 57 = .ok (.ireturn, 1) := by decide +kernel
theorem dX7_rate_58 : decode cX7_rate 58 = .ok (.aload_n 0, 1) := by decide +kernel
theorem dX7_rate_59 : decode cX7_rate 59 = .ok (.iload_n 2, 1) := by decide +kernel
theorem dX7_rate_60 : decode cX7_rate 60 = .ok (.invokevirtual 254, 3) := by decide +kernel
theorem dX7_rate_63 : decode cX7_rate 63 = .ok (.ireturn, 1) := by decide +kernel
theorem dX7_rate_64 : decode cX7_rate 64 = .ok (.aload_n 0, 1) := by decide +kernel
theorem dX7_rate_65 : decode cX7_rate 65 = .ok (.iload_n 2, 1) := by decide +kernel
theorem dX7_rate_66 : decode cX7_rate 66 = .ok (.invokevirtual 257, 3) := by decide +kernel
theorem dX7_rate_69 : decode cX7_rate 69 = .ok (.ireturn, 1) := by decide +kernel
theorem dX7_rate_70 : decode cX7_rate 70 = .ok (.aload_n 0, 1) := by decide +kernel
theorem dX7_rate_71 : decode cX7_rate 71 = .ok (.iload_n 2, 1) := by decide +kernel
theorem dX7_rate_72 : decode cX7_rate 72 = .ok (.invokevirtual 260, 3) := by decide +kernel
theorem dX7_rate_75 : decode cX7_rate 75 = .ok (.ireturn, 1) := by decide +kernel
theorem dX7_rate_76 : decode cX7_rate 76 = .ok (.aload_n 0, 1) := by decide +kernel
theorem dX7_rate_77 : decode cX7_rate 77 = .ok (.iload_n 2, 1) := by decide +kernel
theorem dX7_rate_78 : decode cX7_rate 78 = .ok (.invokevirtual 263, 3) := by decide +kernel
theorem dX7_rate_81 : decode cX7_rate 81 = .ok (.ireturn, 1) := by decide +kernel
theorem dX7_rate_82 : decode cX7_rate 82 = .ok (.aload_n 0, 1) := by decide +kernel
theorem dX7_rate_83 : decode cX7_rate 83 = .ok (.iload_n 2, 1) := by decide +kernel
theorem dX7_rate_84 : decode cX7_rate 84 = .ok (.invokevirtual 266, 3) := by decide +kernel
theorem dX7_rate_87 : decode cX7_rate 87 = .ok (.ireturn, 1) := by decide +kernel
theorem dX7_rate_88 : decode cX7_rate 88 = .ok (.ldc 250, 2) := by decide +kernel
theorem dX7_rate_90 : decode cX7_rate 90 = .ok (.ireturn, 1) := by decide +kernel
set_option maxRecDepth 20000 in
theorem ggX7_keep_X7_noImage : GoodIn wsX7_keep wsX7_noImage := goodIn_r _ [8] (by decide +kernel) (by decide +kernel)
set_option maxRecDepth 20000 in
theorem gX7_keep_X7_noImage : GoodIn wsX7_keep (va_wsS RX7 269 yX7_noImage wsX7_noImage) := goodIn_app (goodIn_of _ (by decide +kernel)) ggX7_keep_X7_noImage
set_option maxRecDepth 20000 in
theorem ggX7_keep_X2_copyFrom : GoodIn wsX7_keep wsX2_copyFrom := goodIn_r _ [13, 14, 15, 16, 17, 18, 19, 20, 21, 22, 23, 24, 38, 39, 40, 41, 42, 43, 44] (by decide +kernel) (by decide +kernel)
set_option maxRecDepth 20000 in
theorem gX7_keep_X2_copyFrom : GoodIn wsX7_keep (wsV RX7 272 RX2 yX2_copyFrom wsX2_copyFrom) := goodIn_app (goodIn_of _ (by decide +kernel)) ggX7_keep_X2_copyFrom
theorem dX7_keep_0 : decode cX7_keep 0 = .ok (.iload_n 1, 1) := by decide +kernel
theorem dX7_keep_1 : decode cX7_keep 1 = .ok (.invokestatic 269, 3) := by decide +kernel
theorem dX7_keep_4 : decode cX7_keep 4 = .ok (.ifCond .eq 5, 3) := by decide +kernel
theorem dX7_keep_7 : decode cX7_keep 7 = .ok (.iconst (-1), 1) := by decide +kernel
theorem dX7_keep_8 : decode cX7_keep 8 = .ok (.ireturn, 1) := by decide +kernel
theorem dX7_keep_9 : decode cX7_keep 9 = .ok (.aload_n 0, 1) := by decide +kernel
theorem dX7_keep_10 : decode cX7_keep 10 = .ok (.getfield 75, 3) := by decide +kernel
theorem dX7_keep_13 : decode cX7_keep 13 = .ok (.iload_n 1, 1) := by decide +kernel
theorem dX7_keep_14 : decode cX7_keep 14 = .ok (.aaload, 1) := by decide +kernel
theorem dX7_keep_15 : decode cX7_keep 15 = .ok (.aload_n 0, 1) := by decide +kernel
theorem dX7_keep_16 : decode cX7_keep 16 = .ok (.getfield 39, 3) := by decide +kernel
theorem dX7_keep_19 : decode cX7_keep 19 = .ok (.invokevirtual 272, 3) := by decide +kernel
theorem dX7_keep_22 : decode cX7_keep 22 = .ok (.aload_n 0, 1) := by decide +kernel
theorem dX7_keep_23 : decode cX7_keep 23 = .ok (.dup, 1) := by decide +kernel
theorem dX7_keep_24 : decode cX7_keep 24 = .ok (.getfield 79, 3) := by decide +kernel
theorem dX7_keep_27 : decode cX7_keep 27 = .ok (.iconst 1, 1) := by decide +kernel
theorem dX7_keep_28 : decode cX7_keep 28 = .ok (.iload_n 1, 1) := by decide +kernel
theorem dX7_keep_29 : decode cX7_keep 29 = .ok (.ishl, 1) := by decide +kernel
theorem dX7_keep_30 : decode cX7_keep 30 = .ok (.ior, 1) := by decide +kernel
theorem dX7_keep_31 : decode cX7_keep 31 = .ok (.putfield 79, 3) := by decide +kernel
theorem dX7_keep_34 : decode cX7_keep 34 = .ok (.aload_n 0, 1) := by decide +kernel
theorem dX7_keep_35 : decode cX7_keep 35 = .ok (.getfield 39, 3) := by decide +kernel
theorem dX7_keep_38 : decode cX7_keep 38 = .ok (.getfield 162, 3) := by decide +kernel
theorem dX7_keep_41 : decode cX7_keep 41 = .ok (.ireturn, 1) := by decide +kernel
set_option maxRecDepth 20000 in
theorem ggX7_back_X7_noImage : GoodIn wsX7_back wsX7_noImage := goodIn_r _ [9] (by decide +kernel) (by decide +kernel)
set_option maxRecDepth 20000 in
theorem gX7_back_X7_noImage : GoodIn wsX7_back (va_wsS RX7 269 yX7_noImage wsX7_noImage) := goodIn_app (goodIn_of _ (by decide +kernel)) ggX7_back_X7_noImage
set_option maxRecDepth 20000 in
theorem ggX7_back_X7_bit : GoodIn wsX7_back wsX7_bit := goodIn_r _ [12] (by decide +kernel) (by decide +kernel)
set_option maxRecDepth 20000 in
theorem gX7_back_X7_bit : GoodIn wsX7_back (va_wsS RX7 123 yX7_bit wsX7_bit) := goodIn_app (goodIn_of _ (by decide +kernel)) ggX7_back_X7_bit
set_option maxRecDepth 20000 in
theorem ggX7_back_X2_copyFrom : GoodIn wsX7_back wsX2_copyFrom := goodIn_r _ [17, 18, 19, 20, 21, 22, 23, 24, 25, 26, 27, 28, 48, 49, 50, 51, 52, 53, 54] (by decide +kernel) (by decide +kernel)
set_option maxRecDepth 20000 in
theorem gX7_back_X2_copyFrom : GoodIn wsX7_back (wsV RX7 272 RX2 yX2_copyFrom wsX2_copyFrom) := goodIn_app (goodIn_of _ (by decide +kernel)) ggX7_back_X2_copyFrom
set_option maxRecDepth 20000 in
theorem ggX7_back_X3_lose : GoodIn wsX7_back wsX3_lose := goodIn_r _ [33, 34, 55, 56, 57] (by decide +kernel) (by decide +kernel)
set_option maxRecDepth 20000 in
theorem gX7_back_X3_lose : GoodIn wsX7_back (wsV RX7 100 RX3 yX3_lose wsX3_lose) := goodIn_app (goodIn_of _ (by decide +kernel)) ggX7_back_X3_lose
theorem dX7_back_0 : decode cX7_back 0 = .ok (.iload_n 1, 1) := by decide +kernel
theorem dX7_back_1 : decode cX7_back 1 = .ok (.invokestatic 269, 3) := by decide +kernel
theorem dX7_back_4 : decode cX7_back 4 = .ok (.ifCond .eq 5, 3) := by decide +kernel
theorem dX7_back_7 : decode cX7_back 7 = .ok (.iconst (-1), 1) := by decide +kernel
theorem dX7_back_8 : decode cX7_back 8 = .ok (.ireturn, 1) := by decide +kernel
theorem dX7_back_9 : decode cX7_back 9 = .ok (.aload_n 0, 1) := by decide +kernel
theorem dX7_back_10 : decode cX7_back 10 = .ok (.getfield 79, 3) := by decide +kernel
theorem dX7_back_13 : decode cX7_back 13 = .ok (.iload_n 1, 1) := by decide +kernel
theorem dX7_back_14 : decode cX7_back 14 = .ok (.invokestatic 123, 3) := by decide +kernel
theorem dX7_back_17 : decode cX7_back 17 = .ok (.ifCond .ne 6, 3) := by decide +kernel
theorem dX7_back_20 : decode cX7_back 20 = .ok (.bipush (-2), 2) := by decide +kernel
theorem dX7_back_22 : decode cX7_back 22 = .ok (.ireturn, 1) := by decide +kernel
theorem dX7_back_23 : decode cX7_back 23 = .ok (.aload_n 0, 1) := by decide +kernel
theorem dX7_back_24 : decode cX7_back 24 = .ok (.getfield 39, 3) := by decide +kernel
theorem dX7_back_27 : decode cX7_back 27 = .ok (.aload_n 0, 1) := by decide +kernel
theorem dX7_back_28 : decode cX7_back 28 = .ok (.getfield 75, 3) := by decide +kernel
theorem dX7_back_31 : decode cX7_back 31 = .ok (.iload_n 1, 1) := by decide +kernel
theorem dX7_back_32 : decode cX7_back 32 = .ok (.aaload, 1) := by decide +kernel
theorem dX7_back_33 : decode cX7_back 33 = .ok (.invokevirtual 272, 3) := by decide +kernel
theorem dX7_back_36 : decode cX7_back 36 = .ok (.aload_n 0, 1) := by decide +kernel
theorem dX7_back_37 : decode cX7_back 37 = .ok (.getfield 71, 3) := by decide +kernel
theorem dX7_back_40 : decode cX7_back 40 = .ok (.invokevirtual 100, 3) := by decide +kernel
theorem dX7_back_43 : decode cX7_back 43 = .ok (.aload_n 0, 1) := by decide +kernel
theorem dX7_back_44 : decode cX7_back 44 = .ok (.getfield 39, 3) := by decide +kernel
theorem dX7_back_47 : decode cX7_back 47 = .ok (.getfield 162, 3) := by decide +kernel
theorem dX7_back_50 : decode cX7_back 50 = .ok (.ireturn, 1) := by decide +kernel
theorem dX7_count_0 : decode cX7_count 0 = .ok (.iload_n 1, 1) := by decide +kernel
theorem dX7_count_1 : decode cX7_count 1 = .ok (.tableswitch 72 0 4 #[35, 43, 51, 59, 67], 35) := by decide +kernel
theorem dX7_count_36 : decode cX7_count 36 = .ok (.aload_n 0, 1) := by decide +kernel
theorem dX7_count_37 : decode cX7_count 37 = .ok (.getfield 20, 3) := by decide +kernel
theorem dX7_count_40 : decode cX7_count 40 = .ok (.getfield 274, 3) := by decide +kernel
theorem dX7_count_43 : decode cX7_count 43 = .ok (.ireturn, 1) := by decide +kernel
theorem dX7_count_44 : decode cX7_count 44 = .ok (.aload_n 0, 1) := by decide +kernel
theorem dX7_count_45 : decode cX7_count 45 = .ok (.getfield 20, 3) := by decide +kernel
theorem dX7_count_48 : decode cX7_count 48 = .ok (.getfield 277, 3) := by decide +kernel
theorem dX7_count_51 : decode cX7_count 51 = .ok (.ireturn, 1) := by decide +kernel
theorem dX7_count_52 : decode cX7_count 52 = .ok (.aload_n 0, 1) := by decide +kernel
theorem dX7_count_53 : decode cX7_count 53 = .ok (.getfield 20, 3) := by decide +kernel
theorem dX7_count_56 : decode cX7_count 56 = .ok (.getfield 189, 3) := by decide +kernel
theorem dX7_count_59 : decode cX7_count 59 = .ok (.ireturn, 1) := by decide +kernel
theorem dX7_count_60 : decode cX7_count 60 = .ok (.aload_n 0, 1) := by decide +kernel
theorem dX7_count_61 : decode cX7_count 61 = .ok (.getfield 64, 3) := by decide +kernel
theorem dX7_count_64 : decode cX7_count 64 = .ok (.getfield 228, 3) := by decide +kernel
theorem dX7_count_67 : decode cX7_count 67 = .ok (.ireturn, 1) := by decide +kernel
theorem dX7_count_68 : decode cX7_count 68 = .ok (.aload_n 0, 1) := by decide +kernel
theorem dX7_count_69 : decode cX7_count 69 = .ok (.getfield 13, 3) := by decide +kernel
theorem dX7_count_72 : decode cX7_count 72 = .ok (.ireturn, 1) := by decide +kernel
theorem dX7_count_73 : decode cX7_count 73 = .ok (.iconst (-1), 1) := by decide +kernel
theorem dX7_count_74 : decode cX7_count 74 = .ok (.ireturn, 1) := by decide +kernel
theorem dX7_trace_0 : decode cX7_trace 0 = .ok (.aload_n 0, 1) := by decide +kernel
theorem dX7_trace_1 : decode cX7_trace 1 = .ok (.getfield 82, 3) := by decide +kernel
theorem dX7_trace_4 : decode cX7_trace 4 = .ok (.lreturn, 1) := by decide +kernel
theorem dX7_asThing_0 : decode cX7_asThing 0 = .ok (.aload_n 0, 1) := by decide +kernel
theorem dX7_asThing_1 : decode cX7_asThing 1 = .ok (.dup, 1) := by decide +kernel
theorem dX7_asThing_2 : decode cX7_asThing 2 = .ok (.getfield 82, 3) := by decide +kernel
theorem dX7_asThing_5 : decode cX7_asThing 5 = .ok (.lconst 1, 1) := by decide +kernel
theorem dX7_asThing_6 : decode cX7_asThing 6 = .ok (.ladd, 1) := by decide +kernel
theorem dX7_asThing_7 : decode cX7_asThing 7 = .ok (.putfield 82, 3) := by decide +kernel
theorem dX7_asThing_10 : decode cX7_asThing 10 = .ok (.aload_n 0, 1) := by decide +kernel
theorem dX7_asThing_11 : decode cX7_asThing 11 = .ok (.getfield 20, 3) := by decide +kernel
theorem dX7_asThing_14 : decode cX7_asThing 14 = .ok (.getfield 111, 3) := by decide +kernel
theorem dX7_asThing_17 : decode cX7_asThing 17 = .ok (.iload_n 1, 1) := by decide +kernel
theorem dX7_asThing_18 : decode cX7_asThing 18 = .ok (.iaload, 1) := by decide +kernel
theorem dX7_asThing_19 : decode cX7_asThing 19 = .ok (.ireturn, 1) := by decide +kernel
set_option maxRecDepth 20000 in
theorem ggX7_asSceptre_X7_asThing : GoodIn wsX7_asSceptre wsX7_asThing := goodIn_r _ [9, 1, 3, 10, 18, 19, 20, 21, 22, 23, 24, 25, 26, 27, 28, 29, 30, 31, 32, 33, 34, 35, 36, 37] (by decide +kernel) (by decide +kernel)
set_option maxRecDepth 20000 in
theorem gX7_asSceptre_X7_asThing : GoodIn wsX7_asSceptre (wsV RX7 251 RX7 yX7_asThing wsX7_asThing) := goodIn_app (goodIn_of _ (by decide +kernel)) ggX7_asSceptre_X7_asThing
set_option maxRecDepth 20000 in
theorem ggX7_asSceptre_J6_bitCount_0f7a4 : GoodIn wsX7_asSceptre wsJ6_bitCount_0f7a4 := goodIn_r _ [14, 15, 16, 17] (by decide +kernel) (by decide +kernel)
set_option maxRecDepth 20000 in
theorem gX7_asSceptre_J6_bitCount_0f7a4 : GoodIn wsX7_asSceptre (va_wsS RX7 184 yJ6_bitCount_0f7a4 wsJ6_bitCount_0f7a4) := goodIn_app (goodIn_of _ (by decide +kernel)) ggX7_asSceptre_J6_bitCount_0f7a4
theorem dX7_asSceptre_0 : decode cX7_asSceptre 0 = .ok (.aload_n 0, 1) := by decide +kernel
theorem dX7_asSceptre_1 : decode cX7_asSceptre 1 = .ok (.dup, 1) := by decide +kernel
theorem dX7_asSceptre_2 : decode cX7_asSceptre 2 = .ok (.getfield 82, 3) := by decide +kernel
theorem dX7_asSceptre_5 : decode cX7_asSceptre 5 = .ok (.ldc2_w 280, 3) := by decide +kernel
theorem dX7_asSceptre_8 : decode cX7_asSceptre 8 = .ok (.ladd, 1) := by decide +kernel
theorem dX7_asSceptre_9 : decode cX7_asSceptre 9 = .ok (.putfield 82, 3) := by decide +kernel
theorem dX7_asSceptre_12 : decode cX7_asSceptre 12 = .ok (.aload_n 0, 1) := by decide +kernel
theorem dX7_asSceptre_13 : decode cX7_asSceptre 13 = .ok (.iload_n 1, 1) := by decide +kernel
theorem dX7_asSceptre_14 : decode cX7_asSceptre 14 = .ok (.invokevirtual 251, 3) := by decide +kernel
theorem dX7_asSceptre_17 : decode cX7_asSceptre 17 = .ok (.aload_n 0, 1) := by decide +kernel
theorem dX7_asSceptre_18 : decode cX7_asSceptre 18 = .ok (.getfield 20, 3) := by decide +kernel
theorem dX7_asSceptre_21 : decode cX7_asSceptre 21 = .ok (.getfield 114, 3) := by decide +kernel
theorem dX7_asSceptre_24 : decode cX7_asSceptre 24 = .ok (.iload_n 1, 1) := by decide +kernel
theorem dX7_asSceptre_25 : decode cX7_asSceptre 25 = .ok (.iaload, 1) := by decide +kernel
theorem dX7_asSceptre_26 : decode cX7_asSceptre 26 = .ok (.invokestatic 184, 3) := by decide +kernel
theorem dX7_asSceptre_29 : decode cX7_asSceptre 29 = .ok (.iadd, 1) := by decide +kernel
theorem dX7_asSceptre_30 : decode cX7_asSceptre 30 = .ok (.ireturn, 1) := by decide +kernel
set_option maxRecDepth 20000 in
theorem ggX7_asOrb_X7_asThing : GoodIn wsX7_asOrb wsX7_asThing := goodIn_r _ [9, 1, 10, 11, 12, 13, 14, 15, 16, 17, 18, 19, 20, 21, 22, 23, 24, 32, 33, 34, 35, 36, 37, 38] (by decide +kernel) (by decide +kernel)
set_option maxRecDepth 20000 in
theorem gX7_asOrb_X7_asThing : GoodIn wsX7_asOrb (wsV RX7 251 RX7 yX7_asThing wsX7_asThing) := goodIn_app (goodIn_of _ (by decide +kernel)) ggX7_asOrb_X7_asThing
theorem dX7_asOrb_0 : decode cX7_asOrb 0 = .ok (.aload_n 0, 1) := by decide +kernel
theorem dX7_asOrb_1 : decode cX7_asOrb 1 = .ok (.dup, 1) := by decide +kernel
theorem dX7_asOrb_2 : decode cX7_asOrb 2 = .ok (.getfield 82, 3) := by decide +kernel
theorem dX7_asOrb_5 : decode cX7_asOrb 5 = .ok (.ldc2_w 282, 3) := by decide +kernel
theorem dX7_asOrb_8 : decode cX7_asOrb 8 = .ok (.ladd, 1) := by decide +kernel
theorem dX7_asOrb_9 : decode cX7_asOrb 9 = .ok (.putfield 82, 3) := by decide +kernel
theorem dX7_asOrb_12 : decode cX7_asOrb 12 = .ok (.aload_n 0, 1) := by decide +kernel
theorem dX7_asOrb_13 : decode cX7_asOrb 13 = .ok (.iload_n 1, 1) := by decide +kernel
theorem dX7_asOrb_14 : decode cX7_asOrb 14 = .ok (.invokevirtual 251, 3) := by decide +kernel
theorem dX7_asOrb_17 : decode cX7_asOrb 17 = .ok (.aload_n 0, 1) := by decide +kernel
theorem dX7_asOrb_18 : decode cX7_asOrb 18 = .ok (.getfield 39, 3) := by decide +kernel
theorem dX7_asOrb_21 : decode cX7_asOrb 21 = .ok (.getfield 130, 3) := by decide +kernel
theorem dX7_asOrb_24 : decode cX7_asOrb 24 = .ok (.iload_n 1, 1) := by decide +kernel
theorem dX7_asOrb_25 : decode cX7_asOrb 25 = .ok (.iaload, 1) := by decide +kernel
theorem dX7_asOrb_26 : decode cX7_asOrb 26 = .ok (.isub, 1) := by decide +kernel
theorem dX7_asOrb_27 : decode cX7_asOrb 27 = .ok (.ireturn, 1) := by decide +kernel
set_option maxRecDepth 20000 in
theorem ggX7_asRing_X7_asSceptre : GoodIn wsX7_asRing wsX7_asSceptre := goodIn_r _ [7, 1, 8, 9, 10, 11, 12, 13, 6, 14, 15, 16, 17, 18, 19, 20, 21, 22, 23, 24, 25, 26, 27, 28, 29, 30, 31, 32, 33, 34, 35, 36, 37, 38, 39, 40, 41, 42] (by decide +kernel) (by decide +kernel)
set_option maxRecDepth 20000 in
theorem gX7_asRing_X7_asSceptre : GoodIn wsX7_asRing (wsV RX7 254 RX7 yX7_asSceptre wsX7_asSceptre) := goodIn_app (goodIn_of _ (by decide +kernel)) ggX7_asRing_X7_asSceptre
theorem dX7_asRing_0 : decode cX7_asRing 0 = .ok (.aload_n 0, 1) := by decide +kernel
theorem dX7_asRing_1 : decode cX7_asRing 1 = .ok (.dup, 1) := by decide +kernel
theorem dX7_asRing_2 : decode cX7_asRing 2 = .ok (.getfield 82, 3) := by decide +kernel
theorem dX7_asRing_5 : decode cX7_asRing 5 = .ok (.ldc2_w 284, 3) := by decide +kernel
theorem dX7_asRing_8 : decode cX7_asRing 8 = .ok (.ladd, 1) := by decide +kernel
theorem dX7_asRing_9 : decode cX7_asRing 9 = .ok (.putfield 82, 3) := by decide +kernel
theorem dX7_asRing_12 : decode cX7_asRing 12 = .ok (.iconst 2, 1) := by decide +kernel
theorem dX7_asRing_13 : decode cX7_asRing 13 = .ok (.aload_n 0, 1) := by decide +kernel
theorem dX7_asRing_14 : decode cX7_asRing 14 = .ok (.iload_n 1, 1) := by decide +kernel
theorem dX7_asRing_15 : decode cX7_asRing 15 = .ok (.invokevirtual 254, 3) := by decide +kernel
theorem dX7_asRing_18 : decode cX7_asRing 18 = .ok (.imul, 1) := by decide +kernel
theorem dX7_asRing_19 : decode cX7_asRing 19 = .ok (.ireturn, 1) := by decide +kernel
set_option maxRecDepth 20000 in
theorem ggX7_asSeal_X7_asOrb : GoodIn wsX7_asSeal wsX7_asOrb := goodIn_r _ [7, 1, 8, 9, 10, 11, 12, 13, 6, 14, 15, 16, 17, 18, 19, 20, 21, 22, 23, 24, 25, 26, 27, 28, 29, 30, 31, 32, 33, 34, 35, 36, 37, 38, 39, 40, 41, 42, 43] (by decide +kernel) (by decide +kernel)
set_option maxRecDepth 20000 in
theorem gX7_asSeal_X7_asOrb : GoodIn wsX7_asSeal (wsV RX7 257 RX7 yX7_asOrb wsX7_asOrb) := goodIn_app (goodIn_of _ (by decide +kernel)) ggX7_asSeal_X7_asOrb
theorem dX7_asSeal_0 : decode cX7_asSeal 0 = .ok (.aload_n 0, 1) := by decide +kernel
theorem dX7_asSeal_1 : decode cX7_asSeal 1 = .ok (.dup, 1) := by decide +kernel
theorem dX7_asSeal_2 : decode cX7_asSeal 2 = .ok (.getfield 82, 3) := by decide +kernel
theorem dX7_asSeal_5 : decode cX7_asSeal 5 = .ok (.ldc2_w 286, 3) := by decide +kernel
theorem dX7_asSeal_8 : decode cX7_asSeal 8 = .ok (.ladd, 1) := by decide +kernel
theorem dX7_asSeal_9 : decode cX7_asSeal 9 = .ok (.putfield 82, 3) := by decide +kernel
theorem dX7_asSeal_12 : decode cX7_asSeal 12 = .ok (.aload_n 0, 1) := by decide +kernel
theorem dX7_asSeal_13 : decode cX7_asSeal 13 = .ok (.iload_n 1, 1) := by decide +kernel
theorem dX7_asSeal_14 : decode cX7_asSeal 14 = .ok (.invokevirtual 257, 3) := by decide +kernel
theorem dX7_asSeal_17 : decode cX7_asSeal 17 = .ok (.iload_n 1, 1) := by decide +kernel
theorem dX7_asSeal_18 : decode cX7_asSeal 18 = .ok (.iadd, 1) := by decide +kernel
theorem dX7_asSeal_19 : decode cX7_asSeal 19 = .ok (.ireturn, 1) := by decide +kernel
set_option maxRecDepth 20000 in
theorem ggX7_asSpoon_X7_asThing : GoodIn wsX7_asSpoon wsX7_asThing := goodIn_r _ [9, 1, 10, 11, 12, 13, 14, 15, 16, 17, 18, 19, 20, 21, 22, 23, 24, 32, 33, 34, 35, 36, 37, 38] (by decide +kernel) (by decide +kernel)
set_option maxRecDepth 20000 in
theorem gX7_asSpoon_X7_asThing : GoodIn wsX7_asSpoon (wsV RX7 251 RX7 yX7_asThing wsX7_asThing) := goodIn_app (goodIn_of _ (by decide +kernel)) ggX7_asSpoon_X7_asThing
theorem dX7_asSpoon_0 : decode cX7_asSpoon 0 = .ok (.aload_n 0, 1) := by decide +kernel
theorem dX7_asSpoon_1 : decode cX7_asSpoon 1 = .ok (.dup, 1) := by decide +kernel
theorem dX7_asSpoon_2 : decode cX7_asSpoon 2 = .ok (.getfield 82, 3) := by decide +kernel
theorem dX7_asSpoon_5 : decode cX7_asSpoon 5 = .ok (.ldc2_w 288, 3) := by decide +kernel
theorem dX7_asSpoon_8 : decode cX7_asSpoon 8 = .ok (.ladd, 1) := by decide +kernel
theorem dX7_asSpoon_9 : decode cX7_asSpoon 9 = .ok (.putfield 82, 3) := by decide +kernel
theorem dX7_asSpoon_12 : decode cX7_asSpoon 12 = .ok (.aload_n 0, 1) := by decide +kernel
theorem dX7_asSpoon_13 : decode cX7_asSpoon 13 = .ok (.iload_n 1, 1) := by decide +kernel
theorem dX7_asSpoon_14 : decode cX7_asSpoon 14 = .ok (.invokevirtual 251, 3) := by decide +kernel
theorem dX7_asSpoon_17 : decode cX7_asSpoon 17 = .ok (.aload_n 0, 1) := by decide +kernel
theorem dX7_asSpoon_18 : decode cX7_asSpoon 18 = .ok (.getfield 39, 3) := by decide +kernel
theorem dX7_asSpoon_21 : decode cX7_asSpoon 21 = .ok (.getfield 162, 3) := by decide +kernel
theorem dX7_asSpoon_24 : decode cX7_asSpoon 24 = .ok (.iadd, 1) := by decide +kernel
theorem dX7_asSpoon_25 : decode cX7_asSpoon 25 = .ok (.ireturn, 1) := by decide +kernel
theorem dX7_noThing_0 : decode cX7_noThing 0 = .ok (.iload_n 1, 1) := by decide +kernel
theorem dX7_noThing_1 : decode cX7_noThing 1 = .ok (.ifCond .lt 14, 3) := by decide +kernel
theorem dX7_noThing_4 : decode cX7_noThing 4 = .ok (.iload_n 1, 1) := by decide +kernel
theorem dX7_noThing_5 : decode cX7_noThing 5 = .ok (.aload_n 0, 1) := by decide +kernel
theorem dX7_noThing_6 : decode cX7_noThing 6 = .ok (.getfield 20, 3) := by decide +kernel
theorem dX7_noThing_9 : decode cX7_noThing 9 = .ok (.getfield 274, 3) := by decide +kernel
theorem dX7_noThing_12 : decode cX7_noThing 12 = .ok (.if_icmp .lt 7, 3) := by decide +kernel
theorem dX7_noThing_15 : decode cX7_noThing 15 = .ok (.iconst 1, 1) := by decide +kernel
theorem dX7_noThing_16 : decode cX7_noThing 16 = .ok (.goto 4, 3) := by decide +kernel
theorem dX7_noThing_19 : decode cX7_noThing 19 = .ok (.iconst 0, 1) := by decide +kernel
theorem dX7_noThing_20 : decode cX7_noThing 20 = .ok (.ireturn, 1) := by decide +kernel
theorem dX7_noOfficer_0 : decode cX7_noOfficer 0 = .ok (.iload_n 1, 1) := by decide +kernel
theorem dX7_noOfficer_1 : decode cX7_noOfficer 1 = .ok (.ifCond .lt 14, 3) := by decide +kernel
theorem dX7_noOfficer_4 : decode cX7_noOfficer 4 = .ok (.iload_n 1, 1) := by decide +kernel
theorem dX7_noOfficer_5 : decode cX7_noOfficer 5 = .ok (.aload_n 0, 1) := by decide +kernel
theorem dX7_noOfficer_6 : decode cX7_noOfficer 6 = .ok (.getfield 20, 3) := by decide +kernel
theorem dX7_noOfficer_9 : decode cX7_noOfficer 9 = .ok (.getfield 277, 3) := by decide +kernel
theorem dX7_noOfficer_12 : decode cX7_noOfficer 12 = .ok (.if_icmp .lt 7, 3) := by decide +kernel
theorem dX7_noOfficer_15 : decode cX7_noOfficer 15 = .ok (.iconst 1, 1) := by decide +kernel
theorem dX7_noOfficer_16 : decode cX7_noOfficer 16 = .ok (.goto 4, 3) := by decide +kernel
theorem dX7_noOfficer_19 : decode cX7_noOfficer 19 = .ok (.iconst 0, 1) := by decide +kernel
theorem dX7_noOfficer_20 : decode cX7_noOfficer 20 = .ok (.ireturn, 1) := by decide +kernel
theorem dX7_noBill_0 : decode cX7_noBill 0 = .ok (.iload_n 0, 1) := by decide +kernel
theorem dX7_noBill_1 : decode cX7_noBill 1 = .ok (.ifCond .lt 8, 3) := by decide +kernel
theorem dX7_noBill_4 : decode cX7_noBill 4 = .ok (.iload_n 0, 1) := by decide +kernel
theorem dX7_noBill_5 : decode cX7_noBill 5 = .ok (.iconst 5, 1) := by decide +kernel
theorem dX7_noBill_6 : decode cX7_noBill 6 = .ok (.if_icmp .lt 7, 3) := by decide +kernel
theorem dX7_noBill_9 : decode cX7_noBill 9 = .ok (.iconst 1, 1) := by decide +kernel
theorem dX7_noBill_10 : decode cX7_noBill 10 = .ok (.goto 4, 3) := by decide +kernel
theorem dX7_noBill_13 : decode cX7_noBill 13 = .ok (.iconst 0, 1) := by decide +kernel
theorem dX7_noBill_14 : decode cX7_noBill 14 = .ok (.ireturn, 1) := by decide +kernel
theorem dX7_noTerm_0 : decode cX7_noTerm 0 = .ok (.iload_n 0, 1) := by decide +kernel
theorem dX7_noTerm_1 : decode cX7_noTerm 1 = .ok (.ifCond .lt 8, 3) := by decide +kernel
theorem dX7_noTerm_4 : decode cX7_noTerm 4 = .ok (.iload_n 0, 1) := by decide +kernel
theorem dX7_noTerm_5 : decode cX7_noTerm 5 = .ok (.iconst 1, 1) := by decide +kernel
theorem dX7_noTerm_6 : decode cX7_noTerm 6 = .ok (.if_icmp .le 7, 3) := by decide +kernel
theorem dX7_noTerm_9 : decode cX7_noTerm 9 = .ok (.iconst 1, 1) := by decide +kernel
theorem dX7_noTerm_10 : decode cX7_noTerm 10 = .ok (.goto 4, 3) := by decide +kernel
theorem dX7_noTerm_13 : decode cX7_noTerm 13 = .ok (.iconst 0, 1) := by decide +kernel
theorem dX7_noTerm_14 : decode cX7_noTerm 14 = .ok (.ireturn, 1) := by decide +kernel
theorem dX7_noImage_0 : decode cX7_noImage 0 = .ok (.iload_n 0, 1) := by decide +kernel
theorem dX7_noImage_1 : decode cX7_noImage 1 = .ok (.ifCond .lt 8, 3) := by decide +kernel
theorem dX7_noImage_4 : decode cX7_noImage 4 = .ok (.iload_n 0, 1) := by decide +kernel
theorem dX7_noImage_5 : decode cX7_noImage 5 = .ok (.iconst 2, 1) := by decide +kernel
theorem dX7_noImage_6 : decode cX7_noImage 6 = .ok (.if_icmp .lt 7, 3) := by decide +kernel
theorem dX7_noImage_9 : decode cX7_noImage 9 = .ok (.iconst 1, 1) := by decide +kernel
theorem dX7_noImage_10 : decode cX7_noImage 10 = .ok (.goto 4, 3) := by decide +kernel
theorem dX7_noImage_13 : decode cX7_noImage 13 = .ok (.iconst 0, 1) := by decide +kernel
theorem dX7_noImage_14 : decode cX7_noImage 14 = .ok (.ireturn, 1) := by decide +kernel
theorem dX7_bit_0 : decode cX7_bit 0 = .ok (.iload_n 0, 1) := by decide +kernel
theorem dX7_bit_1 : decode cX7_bit 1 = .ok (.iload_n 1, 1) := by decide +kernel
theorem dX7_bit_2 : decode cX7_bit 2 = .ok (.ishr, 1) := by decide +kernel
theorem dX7_bit_3 : decode cX7_bit 3 = .ok (.iconst 1, 1) := by decide +kernel
theorem dX7_bit_4 : decode cX7_bit 4 = .ok (.iand, 1) := by decide +kernel
theorem dX7_bit_5 : decode cX7_bit 5 = .ok (.ireturn, 1) := by decide +kernel
theorem dX7_isWithin_0 : decode cX7_isWithin 0 = .ok (.iload_n 0, 1) := by decide +kernel
theorem dX7_isWithin_1 : decode cX7_isWithin 1 = .ok (.iload_n 1, 1) := by decide +kernel
theorem dX7_isWithin_2 : decode cX7_isWithin 2 = .ok (.iconst (-1), 1) := by decide +kernel
theorem dX7_isWithin_3 : decode cX7_isWithin 3 = .ok (.ixor, 1) := by decide +kernel
theorem dX7_isWithin_4 : decode cX7_isWithin 4 = .ok (.iand, 1) := by decide +kernel
theorem dX7_isWithin_5 : decode cX7_isWithin 5 = .ok (.ifCond .ne 7, 3) := by decide +kernel
theorem dX7_isWithin_8 : decode cX7_isWithin 8 = .ok (.iconst 1, 1) := by decide +kernel
theorem dX7_isWithin_9 : decode cX7_isWithin 9 = .ok (.goto 4, 3) := by decide +kernel
theorem dX7_isWithin_12 : decode cX7_isWithin 12 = .ok (.iconst 0, 1) := by decide +kernel
theorem dX7_isWithin_13 : decode cX7_isWithin 13 = .ok (.ireturn, 1) := by decide +kernel
set_option maxRecDepth 20000 in
theorem ggX7_term_X7_commonDivisor : GoodIn wsX7_term wsX7_commonDivisor := goodIn_r _ [4] (by decide +kernel) (by decide +kernel)
set_option maxRecDepth 20000 in
theorem gX7_term_X7_commonDivisor : GoodIn wsX7_term (va_wsS RX7 290 yX7_commonDivisor wsX7_commonDivisor) := goodIn_app (goodIn_of _ (by decide +kernel)) ggX7_term_X7_commonDivisor
theorem dX7_term_0 : decode cX7_term 0 = .ok (.iload_n 0, 1) := by decide +kernel
theorem dX7_term_1 : decode cX7_term 1 = .ok (.iload_n 1, 1) := by decide +kernel
theorem dX7_term_2 : decode cX7_term 2 = .ok (.invokestatic 290, 3) := by decide +kernel
theorem dX7_term_5 : decode cX7_term 5 = .ok (.istore_n 3, 1) := by decide +kernel
theorem dX7_term_6 : decode cX7_term 6 = .ok (.iload_n 3, 1) := by decide +kernel
theorem dX7_term_7 : decode cX7_term 7 = .ok (.ifCond .ne 5, 3) := by decide +kernel
theorem dX7_term_10 : decode cX7_term 10 = .ok (.iload_n 2, 1) := by decide +kernel
theorem dX7_term_11 : decode cX7_term 11 = .ok (.ireturn, 1) := by decide +kernel
theorem dX7_term_12 : decode cX7_term 12 = .ok (.iload_n 2, 1) := by decide +kernel
theorem dX7_term_13 : decode cX7_term 13 = .ok (.ifCond .ne 9, 3) := by decide +kernel
theorem dX7_term_16 : decode cX7_term 16 = .ok (.iload_n 0, 1) := by decide +kernel
theorem dX7_term_17 : decode cX7_term 17 = .ok (.iload_n 3, 1) := by decide +kernel
theorem dX7_term_18 : decode cX7_term 18 = .ok (.idiv, 1) := by decide +kernel
theorem dX7_term_19 : decode cX7_term 19 = .ok (.goto 6, 3) := by decide +kernel
theorem dX7_term_22 : decode cX7_term 22 = .ok (.iload_n 1, 1) := by decide +kernel
theorem dX7_term_23 : decode cX7_term 23 = .ok (.iload_n 3, 1) := by decide +kernel
theorem dX7_term_24 : decode cX7_term 24 = .ok (.idiv, 1) := by decide +kernel
theorem dX7_term_25 : decode cX7_term 25 = .ok (.ireturn, 1) := by decide +kernel
theorem dX7_commonDivisor_0 : decode cX7_commonDivisor 0 = .ok (.iload_n 0, 1) := by decide +kernel
theorem dX7_commonDivisor_1 : decode cX7_commonDivisor 1 = .ok (.istore_n 2, 1) := by decide +kernel
theorem dX7_commonDivisor_2 : decode cX7_commonDivisor 2 = .ok (.iload_n 1, 1) := by decide +kernel
theorem dX7_commonDivisor_3 : decode cX7_commonDivisor 3 = .ok (.istore_n 3, 1) := by decide +kernel
theorem dX7_commonDivisor_4 : decode cX7_commonDivisor 4 = .ok (.iconst 0, 1) := by decide +kernel
theorem dX7_commonDivisor_5 : decode cX7_commonDivisor 5 = .ok (.istore 4, 2) := by decide +kernel
theorem dX7_commonDivisor_7 : decode cX7_commonDivisor 7 = .ok (.iload 4, 2) := by decide +kernel
theorem dX7_commonDivisor_9 : decode cX7_commonDivisor 9 = .ok (.bipush 64, 2) := by decide +kernel
theorem dX7_commonDivisor_11 : decode cX7_commonDivisor 11 = .ok (.if_icmp .ge 23, 3) := by decide +kernel
theorem dX7_commonDivisor_14 : decode cX7_commonDivisor 14 = .ok (.iload_n 3, 1) := by decide +kernel
theorem dX7_commonDivisor_15 : decode cX7_commonDivisor 15 = .ok (.ifCond .eq 19, 3) := by decide +kernel
theorem dX7_commonDivisor_18 : decode cX7_commonDivisor 18 = .ok (.iload_n 2, 1) := by decide +kernel
theorem dX7_commonDivisor_19 : decode cX7_commonDivisor 19 = .ok (.iload_n 3, 1) := by decide +kernel
theorem dX7_commonDivisor_20 : decode cX7_commonDivisor 20 = .ok (.irem, 1) := by decide +kernel
theorem dX7_commonDivisor_21 : decode cX7_commonDivisor 21 = .ok (.istore 5, 2) := by decide +kernel
theorem dX7_commonDivisor_23 : decode cX7_commonDivisor 23 = .ok (.iload_n 3, 1) := by decide +kernel
theorem dX7_commonDivisor_24 : decode cX7_commonDivisor 24 = .ok (.istore_n 2, 1) := by decide +kernel
theorem dX7_commonDivisor_25 : decode cX7_commonDivisor 25 = .ok (.iload 5, 2) := by decide +kernel
theorem dX7_commonDivisor_27 : decode cX7_commonDivisor 27 = .ok (.istore_n 3, 1) := by decide +kernel
theorem dX7_commonDivisor_28 : decode cX7_commonDivisor 28 = .ok (.iinc 4 1, 3) := by decide +kernel
theorem dX7_commonDivisor_31 : decode cX7_commonDivisor 31 = .ok (.goto (-24), 3) := by decide +kernel
theorem dX7_commonDivisor_34 : decode cX7_commonDivisor 34 = .ok (.iload_n 2, 1) := by decide +kernel
theorem dX7_commonDivisor_35 : decode cX7_commonDivisor 35 = .ok (.ireturn, 1) := by decide +kernel
theorem dX8_init_0 : decode cX8_init 0 = .ok (.aload_n 0, 1) := by decide +kernel
theorem dX8_init_1 : decode cX8_init 1 = .ok (.invokespecial 1, 3) := by decide +kernel
theorem dX8_init_4 : decode cX8_init 4 = .ok (.aload_n 0, 1) := by decide +kernel
theorem dX8_init_5 : decode cX8_init 5 = .ok (.sipush 200, 3) := by decide +kernel
theorem dX8_init_8 : decode cX8_init 8 = .ok (.newarray .int, 2) := by decide +kernel
theorem dX8_init_10 : decode cX8_init 10 = .ok (.putfield 7, 3) := by decide +kernel
theorem dX8_init_13 : decode cX8_init 13 = .ok (.aload_n 0, 1) := by decide +kernel
theorem dX8_init_14 : decode cX8_init 14 = .ok (.bipush 6, 2) := by decide +kernel
theorem dX8_init_16 : decode cX8_init 16 = .ok (.newarray .int, 2) := by decide +kernel
theorem dX8_init_18 : decode cX8_init 18 = .ok (.putfield 13, 3) := by decide +kernel
theorem dX8_init_21 : decode cX8_init 21 = .ok (.aload_n 0, 1) := by decide +kernel
theorem dX8_init_22 : decode cX8_init 22 = .ok (.bipush 14, 2) := by decide +kernel
theorem dX8_init_24 : decode cX8_init 24 = .ok (.newarray .int, 2) := by decide +kernel
theorem dX8_init_26 : decode cX8_init 26 = .ok (.putfield 16, 3) := by decide +kernel
theorem dX8_init_29 : decode cX8_init 29 = .ok (.aload_n 0, 1) := by decide +kernel
theorem dX8_init_30 : decode cX8_init 30 = .ok (.bipush 14, 2) := by decide +kernel
theorem dX8_init_32 : decode cX8_init 32 = .ok (.newarray .int, 2) := by decide +kernel
theorem dX8_init_34 : decode cX8_init 34 = .ok (.putfield 19, 3) := by decide +kernel
theorem dX8_init_37 : decode cX8_init 37 = .ok (.aload_n 0, 1) := by decide +kernel
theorem dX8_init_38 : decode cX8_init 38 = .ok (.bipush 14, 2) := by decide +kernel
theorem dX8_init_40 : decode cX8_init 40 = .ok (.newarray .int, 2) := by decide +kernel
theorem dX8_init_42 : decode cX8_init 42 = .ok (.putfield 22, 3) := by decide +kernel
theorem dX8_init_45 : decode cX8_init 45 = .ok (.aload_n 0, 1) := by decide +kernel
theorem dX8_init_46 : decode cX8_init 46 = .ok (.bipush 7, 2) := by decide +kernel
theorem dX8_init_48 : decode cX8_init 48 = .ok (.newarray .int, 2) := by decide +kernel
theorem dX8_init_50 : decode cX8_init 50 = .ok (.putfield 25, 3) := by decide +kernel
theorem dX8_init_53 : decode cX8_init 53 = .ok (.aload_n 0, 1) := by decide +kernel
theorem dX8_init_54 : decode cX8_init 54 = .ok (.bipush 19, 2) := by decide +kernel
theorem dX8_init_56 : decode cX8_init 56 = .ok (.newarray .int, 2) := by decide +kernel
theorem dX8_init_58 : decode cX8_init 58 = .ok (.putfield 28, 3) := by decide +kernel
theorem dX8_init_61 : decode cX8_init 61 = .ok (.aload_n 0, 1) := by decide +kernel
theorem dX8_init_62 : decode cX8_init 62 = .ok (.bipush 19, 2) := by decide +kernel
theorem dX8_init_64 : decode cX8_init 64 = .ok (.newarray .int, 2) := by decide +kernel
theorem dX8_init_66 : decode cX8_init 66 = .ok (.putfield 31, 3) := by decide +kernel
theorem dX8_init_69 : decode cX8_init 69 = .ok (.aload_n 0, 1) := by decide +kernel
theorem dX8_init_70 : decode cX8_init 70 = .ok (.bipush 38, 2) := by decide +kernel
theorem dX8_init_72 : decode cX8_init 72 = .ok (.newarray .int, 2) := by decide +kernel
theorem dX8_init_74 : decode cX8_init 74 = .ok (.putfield 34, 3) := by decide +kernel
theorem dX8_init_77 : decode cX8_init 77 = .ok (.aload_n 0, 1) := by decide +kernel
theorem dX8_init_78 : decode cX8_init 78 = .ok (.iconst 2, 1) := by decide +kernel
theorem dX8_init_79 : decode cX8_init 79 = .ok (.newarray .boolean, 2) := by decide +kernel
theorem dX8_init_81 : decode cX8_init 81 = .ok (.putfield 37, 3) := by decide +kernel
theorem dX8_init_84 : decode cX8_init 84 = .ok (.aload_n 0, 1) := by decide +kernel
theorem dX8_init_85 : decode cX8_init 85 = .ok (.sipush 190, 3) := by decide +kernel
theorem dX8_init_88 : decode cX8_init 88 = .ok (.newarray .int, 2) := by decide +kernel
theorem dX8_init_90 : decode cX8_init 90 = .ok (.putfield 41, 3) := by decide +kernel
theorem dX8_init_93 : decode cX8_init 93 = .ok (.aload_n 0, 1) := by decide +kernel
theorem dX8_init_94 : decode cX8_init 94 = .ok (.bipush 6, 2) := by decide +kernel
theorem dX8_init_96 : decode cX8_init 96 = .ok (.newarray .int, 2) := by decide +kernel
theorem dX8_init_98 : decode cX8_init 98 = .ok (.putfield 44, 3) := by decide +kernel
theorem dX8_init_101 : decode cX8_init 101 = .ok (.aload_n 0, 1) := by decide +kernel
theorem dX8_init_102 : decode cX8_init 102 = .ok (.bipush 6, 2) := by decide +kernel
theorem dX8_init_104 : decode cX8_init 104 = .ok (.newarray .int, 2) := by decide +kernel
theorem dX8_init_106 : decode cX8_init 106 = .ok (.putfield 47, 3) := by decide +kernel
theorem dX8_init_109 : decode cX8_init 109 = .ok (.aload_n 0, 1) := by decide +kernel
theorem dX8_init_110 : decode cX8_init 110 = .ok (.getfield 13, 3) := by decide +kernel
theorem dX8_init_113 : decode cX8_init 113 = .ok (.iconst 1, 1) := by decide +kernel
theorem dX8_init_114 : decode cX8_init 114 = .ok (.iconst 3, 1) := by decide +kernel
theorem dX8_init_115 : decode cX8_init 115 = .ok (.iastore, 1) := by decide +kernel
theorem dX8_init_116 : decode cX8_init 116 = .ok (.aload_n 0, 1) := by decide +kernel
theorem dX8_init_117 : decode cX8_init 117 = .ok (.getfield 13, 3) := by decide +kernel
theorem dX8_init_120 : decode cX8_init 120 = .ok (.iconst 2, 1) := by decide +kernel
theorem dX8_init_121 : decode cX8_init 121 = .ok (.iconst 2, 1) := by decide +kernel
theorem dX8_init_122 : decode cX8_init 122 = .ok (.iastore, 1) := by decide +kernel
theorem dX8_init_123 : decode cX8_init 123 = .ok (.return_, 1) := by decide +kernel
theorem dX8_in_0 : decode cX8_in 0 = .ok (.iload_n 0, 1) := by decide +kernel
theorem dX8_in_1 : decode cX8_in 1 = .ok (.iload_n 1, 1) := by decide +kernel
theorem dX8_in_2 : decode cX8_in 2 = .ok (.if_icmp .lt 12, 3) := by decide +kernel
theorem dX8_in_5 : decode cX8_in 5 = .ok (.iload_n 0, 1) := by decide +kernel
theorem dX8_in_6 : decode cX8_in 6 = .ok (.iload_n 2, 1) := by decide +kernel
theorem dX8_in_7 : decode cX8_in 7 = .ok (.if_icmp .gt 7, 3) := by decide +kernel
theorem dX8_in_10 : decode cX8_in 10 = .ok (.iconst 1, 1) := by decide +kernel
theorem dX8_in_11 : decode cX8_in 11 = .ok (.goto 4, 3) := by decide +kernel
theorem dX8_in_14 : decode cX8_in 14 = .ok (.iconst 0, 1) := by decide +kernel
theorem dX8_in_15 : decode cX8_in 15 = .ok (.ireturn, 1) := by decide +kernel
theorem dX8_ones_0 : decode cX8_ones 0 = .ok (.iconst 0, 1) := by decide +kernel
theorem dX8_ones_1 : decode cX8_ones 1 = .ok (.istore_n 1, 1) := by decide +kernel
theorem dX8_ones_2 : decode cX8_ones 2 = .ok (.iconst 0, 1) := by decide +kernel
theorem dX8_ones_3 : decode cX8_ones 3 = .ok (.istore_n 2, 1) := by decide +kernel
theorem dX8_ones_4 : decode cX8_ones 4 = .ok (.iload_n 2, 1) := by decide +kernel
theorem dX8_ones_5 : decode cX8_ones 5 = .ok (.bipush 7, 2) := by decide +kernel
theorem dX8_ones_7 : decode cX8_ones 7 = .ok (.if_icmp .ge 17, 3) := by decide +kernel
theorem dX8_ones_10 : decode cX8_ones 10 = .ok (.iload_n 1, 1) := by decide +kernel
theorem dX8_ones_11 : decode cX8_ones 11 = .ok (.iload_n 0, 1) := by decide +kernel
theorem dX8_ones_12 : decode cX8_ones 12 = .ok (.iload_n 2, 1) := by decide +kernel
theorem dX8_ones_13 : decode cX8_ones 13 = .ok (.ishr, 1) := by decide +kernel
theorem dX8_ones_14 : decode cX8_ones 14 = .ok (.iconst 1, 1) := by decide +kernel
theorem dX8_ones_15 : decode cX8_ones 15 = .ok (.iand, 1) := by decide +kernel
theorem dX8_ones_16 : decode cX8_ones 16 = .ok (.iadd, 1) := by decide +kernel
theorem dX8_ones_17 : decode cX8_ones 17 = .ok (.istore_n 1, 1) := by decide +kernel
theorem dX8_ones_18 : decode cX8_ones 18 = .ok (.iinc 2 1, 3) := by decide +kernel
theorem dX8_ones_21 : decode cX8_ones 21 = .ok (.goto (-17), 3) := by decide +kernel
theorem dX8_ones_24 : decode cX8_ones 24 = .ok (.iload_n 1, 1) := by decide +kernel
theorem dX8_ones_25 : decode cX8_ones 25 = .ok (.ireturn, 1) := by decide +kernel
set_option maxRecDepth 20000 in
theorem ggX8_type_X8_in : GoodIn wsX8_type wsX8_in := goodIn_r _ [7] (by decide +kernel) (by decide +kernel)
set_option maxRecDepth 20000 in
theorem gX8_type_X8_in : GoodIn wsX8_type (va_wsS RX8 54 yX8_in wsX8_in) := goodIn_app (goodIn_of _ (by decide +kernel)) ggX8_type_X8_in
theorem dX8_type_0 : decode cX8_type 0 = .ok (.aload_n 0, 1) := by decide +kernel
theorem dX8_type_1 : decode cX8_type 1 = .ok (.iconst 0, 1) := by decide +kernel
theorem dX8_type_2 : decode cX8_type 2 = .ok (.putfield 50, 3) := by decide +kernel
theorem dX8_type_5 : decode cX8_type 5 = .ok (.iload_n 1, 1) := by decide +kernel
theorem dX8_type_6 : decode cX8_type 6 = .ok (.iconst 0, 1) := by decide +kernel
theorem dX8_type_7 : decode cX8_type 7 = .ok (.sipush 255, 3) := by decide +kernel
theorem dX8_type_10 : decode cX8_type 10 = .ok (.invokestatic 54, 3) := by decide +kernel
theorem dX8_type_13 : decode cX8_type 13 = .ok (.ifCond .ne 5, 3) := by decide +kernel
theorem dX8_type_16 : decode cX8_type 16 = .ok (.iconst (-1), 1) := by decide +kernel
theorem dX8_type_17 : decode cX8_type 17 = .ok (.ireturn, 1) := by decide +kernel
theorem dX8_type_18 : decode cX8_type 18 = .ok (.aload_n 0, 1) := by decide +kernel
theorem dX8_type_19 : decode cX8_type 19 = .ok (.getfield 58, 3) := by decide +kernel
theorem dX8_type_22 : decode cX8_type 22 = .ok (.sipush 200, 3) := by decide +kernel
theorem dX8_type_25 : decode cX8_type 25 = .ok (.if_icmp .ne 6, 3) := by decide +kernel
theorem dX8_type_28 : decode cX8_type 28 = .ok (.bipush (-3), 2) := by decide +kernel
theorem dX8_type_30 : decode cX8_type 30 = .ok (.ireturn, 1) := by decide +kernel
theorem dX8_type_31 : decode cX8_type 31 = .ok (.aload_n 0, 1) := by decide +kernel
theorem dX8_type_32 : decode cX8_type 32 = .ok (.getfield 7, 3) := by decide +kernel
theorem dX8_type_35 : decode cX8_type 35 = .ok (.aload_n 0, 1) := by decide +kernel
theorem dX8_type_36 : decode cX8_type 36 = .ok (.getfield 58, 3) := by decide +kernel
theorem dX8_type_39 : decode cX8_type 39 = .ok (.iload_n 1, 1) := by decide +kernel
theorem dX8_type_40 : decode cX8_type 40 = .ok (.iastore, 1) := by decide +kernel
theorem dX8_type_41 : decode cX8_type 41 = .ok (.aload_n 0, 1) := by decide +kernel
theorem dX8_type_42 : decode cX8_type 42 = .ok (.dup, 1) := by decide +kernel
theorem dX8_type_43 : decode cX8_type 43 = .ok (.getfield 58, 3) := by decide +kernel
theorem dX8_type_46 : decode cX8_type 46 = .ok (.iconst 1, 1) := by decide +kernel
theorem dX8_type_47 : decode cX8_type 47 = .ok (.iadd, 1) := by decide +kernel
theorem dX8_type_48 : decode cX8_type 48 = .ok (.putfield 58, 3) := by decide +kernel
theorem dX8_type_51 : decode cX8_type 51 = .ok (.aload_n 0, 1) := by decide +kernel
theorem dX8_type_52 : decode cX8_type 52 = .ok (.getfield 58, 3) := by decide +kernel
theorem dX8_type_55 : decode cX8_type 55 = .ok (.ireturn, 1) := by decide +kernel
theorem dX8_clear_0 : decode cX8_clear 0 = .ok (.aload_n 0, 1) := by decide +kernel
theorem dX8_clear_1 : decode cX8_clear 1 = .ok (.iconst 0, 1) := by decide +kernel
theorem dX8_clear_2 : decode cX8_clear 2 = .ok (.putfield 50, 3) := by decide +kernel
theorem dX8_clear_5 : decode cX8_clear 5 = .ok (.aload_n 0, 1) := by decide +kernel
theorem dX8_clear_6 : decode cX8_clear 6 = .ok (.getfield 58, 3) := by decide +kernel
theorem dX8_clear_9 : decode cX8_clear 9 = .ok (.istore_n 1, 1) := by decide +kernel
theorem dX8_clear_10 : decode cX8_clear 10 = .ok (.aload_n 0, 1) := by decide +kernel
theorem dX8_clear_11 : decode cX8_clear 11 = .ok (.iconst 0, 1) := by decide +kernel
theorem dX8_clear_12 : decode cX8_clear 12 = .ok (.putfield 58, 3) := by decide +kernel
theorem dX8_clear_15 : decode cX8_clear 15 = .ok (.iload_n 1, 1) := by decide +kernel
theorem dX8_clear_16 : decode cX8_clear 16 = .ok (.ireturn, 1) := by decide +kernel
theorem dX8_letterAt_0 : decode cX8_letterAt 0 = .ok (.iload_n 1, 1) := by decide +kernel
theorem dX8_letterAt_1 : decode cX8_letterAt 1 = .ok (.aload_n 0, 1) := by decide +kernel
theorem dX8_letterAt_2 : decode cX8_letterAt 2 = .ok (.getfield 58, 3) := by decide +kernel
theorem dX8_letterAt_5 : decode cX8_letterAt 5 = .ok (.if_icmp .ge 12, 3) := by decide +kernel
theorem dX8_letterAt_8 : decode cX8_letterAt 8 = .ok (.aload_n 0, 1) := by decide +kernel
theorem dX8_letterAt_9 : decode cX8_letterAt 9 = .ok (.getfield 7, 3) := by decide +kernel
theorem dX8_letterAt_12 : decode cX8_letterAt 12 = .ok (.iload_n 1, 1) := by decide +kernel
theorem dX8_letterAt_13 : decode cX8_letterAt 13 = .ok (.iaload, 1) := by decide +kernel
theorem dX8_letterAt_14 : decode cX8_letterAt 14 = .ok (.goto 4, 3) := by decide +kernel
theorem dX8_letterAt_17 : decode cX8_letterAt 17 = .ok (.iconst (-1), 1) := by decide +kernel
theorem dX8_letterAt_18 : decode cX8_letterAt 18 = .ok (.ireturn, 1) := by decide +kernel
set_option maxRecDepth 20000 in
theorem ggX8_advances_X8_letterAt : GoodIn wsX8_advances wsX8_letterAt := goodIn_r _ [9, 10, 11, 15, 16, 17, 18, 19, 20, 21, 22, 23, 24, 25, 26, 27, 28, 29, 30, 31, 32, 33, 34, 35, 36, 37, 38] (by decide +kernel) (by decide +kernel)
set_option maxRecDepth 20000 in
theorem gX8_advances_X8_letterAt : GoodIn wsX8_advances (wsV RX8 64 RX8 yX8_letterAt wsX8_letterAt) := goodIn_app (goodIn_of _ (by decide +kernel)) ggX8_advances_X8_letterAt
set_option maxRecDepth 20000 in
theorem ggX8_advances_X8_in : GoodIn wsX8_advances wsX8_in := goodIn_r _ [14] (by decide +kernel) (by decide +kernel)
set_option maxRecDepth 20000 in
theorem gX8_advances_X8_in : GoodIn wsX8_advances (va_wsS RX8 54 yX8_in wsX8_in) := goodIn_app (goodIn_of _ (by decide +kernel)) ggX8_advances_X8_in
theorem dX8_advances_0 : decode cX8_advances 0 = .ok (.aload_n 0, 1) := by decide +kernel
theorem dX8_advances_1 : decode cX8_advances 1 = .ok (.aload_n 0, 1) := by decide +kernel
theorem dX8_advances_2 : decode cX8_advances 2 = .ok (.getfield 61, 3) := by decide +kernel
theorem dX8_advances_5 : decode cX8_advances 5 = .ok (.invokevirtual 64, 3) := by decide +kernel
theorem dX8_advances_8 : decode cX8_advances 8 = .ok (.bipush 32, 2) := by decide +kernel
theorem dX8_advances_10 : decode cX8_advances 10 = .ok (.if_icmp .ne 16, 3) := by decide +kernel
theorem dX8_advances_13 : decode cX8_advances 13 = .ok (.aload_n 0, 1) := by decide +kernel
theorem dX8_advances_14 : decode cX8_advances 14 = .ok (.dup, 1) := by decide +kernel
theorem dX8_advances_15 : decode cX8_advances 15 = .ok (.getfield 61, 3) := by decide +kernel
theorem dX8_advances_18 : decode cX8_advances 18 = .ok (.iconst 1, 1) := by decide +kernel
theorem dX8_advances_19 : decode cX8_advances 19 = .ok (.iadd, 1) := by decide +kernel
theorem dX8_advances_20 : decode cX8_advances 20 = .ok (.putfield 61, 3) := by decide +kernel
theorem dX8_advances_23 : decode cX8_advances 23 = .ok (.goto (-23), 3) := by decide +kernel
theorem dX8_advances_26 : decode cX8_advances 26 = .ok (.aload_n 0, 1) := by decide +kernel
theorem dX8_advances_27 : decode cX8_advances 27 = .ok (.aload_n 0, 1) := by decide +kernel
theorem dX8_advances_28 : decode cX8_advances 28 = .ok (.getfield 61, 3) := by decide +kernel
theorem dX8_advances_31 : decode cX8_advances 31 = .ok (.putfield 68, 3) := by decide +kernel
theorem dX8_advances_34 : decode cX8_advances 34 = .ok (.aload_n 0, 1) := by decide +kernel
theorem dX8_advances_35 : decode cX8_advances 35 = .ok (.aload_n 0, 1) := by decide +kernel
theorem dX8_advances_36 : decode cX8_advances 36 = .ok (.getfield 61, 3) := by decide +kernel
theorem dX8_advances_39 : decode cX8_advances 39 = .ok (.invokevirtual 64, 3) := by decide +kernel
theorem dX8_advances_42 : decode cX8_advances 42 = .ok (.istore_n 1, 1) := by decide +kernel
theorem dX8_advances_43 : decode cX8_advances 43 = .ok (.iload_n 1, 1) := by decide +kernel
theorem dX8_advances_44 : decode cX8_advances 44 = .ok (.ifCond .ge 11, 3) := by decide +kernel
theorem dX8_advances_47 : decode cX8_advances 47 = .ok (.aload_n 0, 1) := by decide +kernel
theorem dX8_advances_48 : decode cX8_advances 48 = .ok (.iconst 0, 1) := by decide +kernel
theorem dX8_advances_49 : decode cX8_advances 49 = .ok (.putfield 71, 3) := by decide +kernel
theorem dX8_advances_52 : decode cX8_advances 52 = .ok (.goto 181, 3) := by decide +kernel
theorem dX8_advances_55 : decode cX8_advances 55 = .ok (.iload_n 1, 1) := by decide +kernel
theorem dX8_advances_56 : decode cX8_advances 56 = .ok (.bipush 48, 2) := by decide +kernel
theorem dX8_advances_58 : decode cX8_advances 58 = .ok (.bipush 57, 2) := by decide +kernel
theorem dX8_advances_60 : decode cX8_advances 60 = .ok (.invokestatic 54, 3) := by decide +kernel
theorem dX8_advances_63 : decode cX8_advances 63 = .ok (.ifCond .eq 118, 3) := by decide +kernel
theorem dX8_advances_66 : decode cX8_advances 66 = .ok (.aload_n 0, 1) := by decide +kernel
theorem dX8_advances_67 : decode cX8_advances 67 = .ok (.iconst 0, 1) := by decide +kernel
theorem dX8_advances_68 : decode cX8_advances 68 = .ok (.putfield 74, 3) := by decide +kernel
theorem dX8_advances_71 : decode cX8_advances 71 = .ok (.aload_n 0, 1) := by decide +kernel
theorem dX8_advances_72 : decode cX8_advances 72 = .ok (.aload_n 0, 1) := by decide +kernel
theorem dX8_advances_73 : decode cX8_advances 73 = .ok (.getfield 61, 3) := by decide +kernel
theorem dX8_advances_76 : decode cX8_advances 76 = .ok (.invokevirtual 64, 3) := by decide +kernel
theorem dX8_advances_79 : decode cX8_advances 79 = .ok (.bipush 48, 2) := by decide +kernel
theorem dX8_advances_81 : decode cX8_advances 81 = .ok (.bipush 57, 2) := by decide +kernel
theorem dX8_advances_83 : decode cX8_advances 83 = .ok (.invokestatic 54, 3) := by decide +kernel
theorem dX8_advances_86 : decode cX8_advances 86 = .ok (.ifCond .eq 55, 3) := by decide +kernel
theorem dX8_advances_89 : decode cX8_advances 89 = .ok (.aload_n 0, 1) := by decide +kernel
theorem dX8_advances_90 : decode cX8_advances 90 = .ok (.aload_n 0, 1) := by decide +kernel
theorem dX8_advances_91 : decode cX8_advances 91 = .ok (.getfield 74, 3) := by decide +kernel
theorem dX8_advances_94 : decode cX8_advances 94 = .ok (.bipush 31, 2) := by decide +kernel
theorem dX8_advances_96 : decode cX8_advances 96 = .ok (.if_icmp .le 10, 3) := by decide +kernel
theorem dX8_advances_99 : decode cX8_advances 99 = .ok (.aload_n 0, 1) := by decide +kernel
theorem dX8_advances_100 : decode cX8_advances 100 = .ok (.getfield 74, 3) := by decide +kernel
theorem dX8_advances_103 : decode cX8_advances 103 = .ok (.goto 22, 3) := by decide +kernel
theorem dX8_advances_106 : decode cX8_advances 106 = .ok (.bipush 10, 2) := by decide +kernel
theorem dX8_advances_108 : decode cX8_advances 108 = .ok (.aload_n 0, 1) := by decide +kernel
theorem dX8_advances_109 : decode cX8_advances 109 = .ok (.getfield 74, 3) := by decide +kernel
theorem dX8_advances_112 : decode cX8_advances 112 = .ok (.imul, 1) := by decide +kernel
theorem dX8_advances_113 : decode cX8_advances 113 = .ok (.aload_n 0, 1) := by decide +kernel
theorem dX8_advances_114 : decode cX8_advances 114 = .ok (.aload_n 0, 1) := by decide +kernel
theorem dX8_advances_115 : decode cX8_advances 115 = .ok (.getfield 61, 3) := by decide +kernel
theorem dX8_advances_118 : decode cX8_advances 118 = .ok (.invokevirtual 64, 3) := by decide +kernel
theorem dX8_advances_121 : decode cX8_advances 121 = .ok (.iadd, 1) := by decide +kernel
theorem dX8_advances_122 : decode cX8_advances 122 = .ok (.bipush 48, 2) := by decide +kernel
theorem dX8_advances_124 : decode cX8_advances 124 = .ok (.isub, 1) := by decide +kernel
theorem dX8_advances_125 : decode cX8_advances 125 = .ok (.putfield 74, 3) := by decide +kernel
theorem dX8_advances_128 : decode cX8_advances 128 = .ok (.aload_n 0, 1) := by decide +kernel
theorem dX8_advances_129 : decode cX8_advances 129 = .ok (.dup, 1) := by decide +kernel
theorem dX8_advances_130 : decode cX8_advances 130 = .ok (.getfield 61, 3) := by decide +kernel
theorem dX8_advances_133 : decode cX8_advances 133 = .ok (.iconst 1, 1) := by decide +kernel
theorem dX8_advances_134 : decode cX8_advances 134 = .ok (.iadd, 1) := by decide +kernel
theorem dX8_advances_135 : decode cX8_advances 135 = .ok (.putfield 61, 3) := by decide +kernel
theorem dX8_advances_138 : decode cX8_advances 138 = .ok (.goto (-67), 3) := by decide +kernel
theorem dX8_advances_141 : decode cX8_advances 141 = .ok (.aload_n 0, 1) := by decide +kernel
theorem dX8_advances_142 : decode cX8_advances 142 = .ok (.aload_n 0, 1) := by decide +kernel
theorem dX8_advances_143 : decode cX8_advances 143 = .ok (.getfield 74, 3) := by decide +kernel
theorem dX8_advances_146 : decode cX8_advances 146 = .ok (.bipush 31, 2) := by decide +kernel
theorem dX8_advances_148 : decode cX8_advances 148 = .ok (.if_icmp .gt 22, 3) := by decide +kernel
theorem dX8_advances_151 : decode cX8_advances 151 = .ok (.iload_n 1, 1) := by decide +kernel
theorem dX8_advances_152 : decode cX8_advances 152 = .ok (.bipush 48, 2) := by decide +kernel
theorem dX8_advances_154 : decode cX8_advances 154 = .ok (.if_icmp .ne 20, 3) := by decide +kernel
theorem dX8_advances_157 : decode cX8_advances 157 = .ok (.aload_n 0, 1) := by decide +kernel
theorem dX8_advances_158 : decode cX8_advances 158 = .ok (.getfield 61, 3) := by decide +kernel
theorem dX8_advances_161 : decode cX8_advances 161 = .ok (.aload_n 0, 1) := by decide +kernel
theorem dX8_advances_162 : decode cX8_advances 162 = .ok (.getfield 68, 3) := by decide +kernel
theorem dX8_advances_165 : decode cX8_advances 165 = .ok (.isub, 1) := by decide +kernel
theorem dX8_advances_166 : decode cX8_advances 166 = .ok (.iconst 1, 1) := by decide +kernel
theorem dX8_advances_167 : decode cX8_advances 167 = .ok (.if_icmp .le 7, 3) := by decide +kernel
theorem dX8_advances_170 : decode cX8_advances 170 = .ok (.iconst 4, 1) := by decide +kernel
theorem dX8_advances_171 : decode cX8_advances 171 = .ok (.goto 4, 3) := by decide +kernel
theorem dX8_advances_174 : decode cX8_advances 174 = .ok (.iconst 2, 1) := by decide +kernel
theorem dX8_advances_175 : decode cX8_advances 175 = .ok (.putfield 71, 3) := by decide +kernel
theorem dX8_advances_178 : decode cX8_advances 178 = .ok (.goto 55, 3) := by decide +kernel
theorem dX8_advances_181 : decode cX8_advances 181 = .ok (.aload_n 0, 1) := by decide +kernel
theorem dX8_advances_182 : decode cX8_advances 182 = .ok (.dup, 1) := by decide +kernel
theorem dX8_advances_183 : decode cX8_advances 183 = .ok (.getfield 61, 3) := by decide +kernel
theorem dX8_advances_186 : decode cX8_advances 186 = .ok (.iconst 1, 1) := by decide +kernel
theorem dX8_advances_187 : decode cX8_advances 187 = .ok (.iadd, 1) := by decide +kernel
theorem dX8_advances_188 : decode cX8_advances 188 = .ok (.putfield 61, 3) := by decide +kernel
theorem dX8_advances_191 : decode cX8_advances 191 = .ok (.aload_n 0, 1) := by decide +kernel
theorem dX8_advances_192 : decode cX8_advances 192 = .ok (.iload_n 1, 1) := by decide +kernel
theorem dX8_advances_193 : decode cX8_advances 193 = .ok (.putfield 74, 3) := by decide +kernel
theorem dX8_advances_196 : decode cX8_advances 196 = .ok (.aload_n 0, 1) := by decide +kernel
theorem dX8_advances_197 : decode cX8_advances 197 = .ok (.iload_n 1, 1) := by decide +kernel
theorem dX8_advances_198 : decode cX8_advances 198 = .ok (.bipush 59, 2) := by decide +kernel
theorem dX8_advances_200 : decode cX8_advances 200 = .ok (.if_icmp .ne 7, 3) := by decide +kernel
theorem dX8_advances_203 : decode cX8_advances 203 = .ok (.iconst 3, 1) := by decide +kernel
theorem dX8_advances_204 : decode cX8_advances 204 = .ok (.goto 26, 3) := by decide +kernel
theorem dX8_advances_207 : decode cX8_advances 207 = .ok (.iload_n 1, 1) := by decide +kernel
theorem dX8_advances_208 : decode cX8_advances 208 = .ok (.bipush 111, 2) := by decide +kernel
theorem dX8_advances_210 : decode cX8_advances 210 = .ok (.if_icmp .eq 15, 3) := by decide +kernel
theorem dX8_advances_213 : decode cX8_advances 213 = .ok (.iload_n 1, 1) := by decide +kernel
theorem dX8_advances_214 : decode cX8_advances 214 = .ok (.bipush 116, 2) := by decide +kernel
theorem dX8_advances_216 : decode cX8_advances 216 = .ok (.if_icmp .eq 9, 3) := by decide +kernel
theorem dX8_advances_219 : decode cX8_advances 219 = .ok (.iload_n 1, 1) := by decide +kernel
theorem dX8_advances_220 : decode cX8_advances 220 = .ok (.bipush 119, 2) := by decide +kernel
theorem dX8_advances_222 : decode cX8_advances 222 = .ok (.if_icmp .ne 7, 3) := by decide +kernel
theorem dX8_advances_225 : decode cX8_advances 225 = .ok (.iconst 1, 1) := by decide +kernel
theorem dX8_advances_226 : decode cX8_advances 226 = .ok (.goto 4, 3) := by decide +kernel
theorem dX8_advances_229 : decode cX8_advances 229 = .ok (.iconst 4, 1) := by decide +kernel
theorem dX8_advances_230 : decode cX8_advances 230 = .ok (.putfield 71, 3) := by decide +kernel
theorem dX8_advances_233 : decode cX8_advances 233 = .ok (.return_, 1) := by decide +kernel
theorem dX8_isWell_0 : decode cX8_isWell 0 = .ok (.aload_n 0, 1) := by decide +kernel
theorem dX8_isWell_1 : decode cX8_isWell 1 = .ok (.getfield 77, 3) := by decide +kernel
theorem dX8_isWell_4 : decode cX8_isWell 4 = .ok (.ifCond .ge 7, 3) := by decide +kernel
theorem dX8_isWell_7 : decode cX8_isWell 7 = .ok (.iconst 1, 1) := by decide +kernel
theorem dX8_isWell_8 : decode cX8_isWell 8 = .ok (.goto 4, 3) := by decide +kernel
theorem dX8_isWell_11 : decode cX8_isWell 11 = .ok (.iconst 0, 1) := by decide +kernel
theorem dX8_isWell_12 : decode cX8_isWell 12 = .ok (.ireturn, 1) := by decide +kernel
set_option maxRecDepth 20000 in
theorem ggX8_takes_X8_isWell : GoodIn wsX8_takes wsX8_isWell := goodIn_r _ [8, 2, 24, 25, 26, 27, 28, 29, 30, 31, 32, 33, 34, 35, 36, 37, 38, 39, 40, 41, 42, 43, 44, 45, 46, 47] (by decide +kernel) (by decide +kernel)
set_option maxRecDepth 20000 in
theorem gX8_takes_X8_isWell : GoodIn wsX8_takes (wsV RX8 80 RX8 yX8_isWell wsX8_isWell) := goodIn_app (goodIn_of _ (by decide +kernel)) ggX8_takes_X8_isWell
set_option maxRecDepth 20000 in
theorem ggX8_takes_X8_advances : GoodIn wsX8_takes wsX8_advances := goodIn_r _ [12, 13, 1, 14, 3, 15, 16, 17, 7, 18, 19, 20, 21, 22, 23, 24, 25, 26, 27, 28, 29, 30, 31, 32, 33, 34, 35, 36, 37, 38, 39, 40, 41, 42, 43, 44, 45, 46, 47] (by decide +kernel) (by decide +kernel)
set_option maxRecDepth 20000 in
theorem gX8_takes_X8_advances : GoodIn wsX8_takes (wsV RX8 84 RX8 yX8_advances wsX8_advances) := goodIn_app (goodIn_of _ (by decide +kernel)) ggX8_takes_X8_advances
theorem dX8_takes_0 : decode cX8_takes 0 = .ok (.aload_n 0, 1) := by decide +kernel
theorem dX8_takes_1 : decode cX8_takes 1 = .ok (.invokevirtual 80, 3) := by decide +kernel
theorem dX8_takes_4 : decode cX8_takes 4 = .ok (.ifCond .ne 5, 3) := by decide +kernel
theorem dX8_takes_7 : decode cX8_takes 7 = .ok (.iconst 0, 1) := by decide +kernel
theorem dX8_takes_8 : decode cX8_takes 8 = .ok (.ireturn, 1) := by decide +kernel
theorem dX8_takes_9 : decode cX8_takes 9 = .ok (.iload_n 1, 1) := by decide +kernel
theorem dX8_takes_10 : decode cX8_takes 10 = .ok (.ifCond .ne 13, 3) := by decide +kernel
theorem dX8_takes_13 : decode cX8_takes 13 = .ok (.aload_n 0, 1) := by decide +kernel
theorem dX8_takes_14 : decode cX8_takes 14 = .ok (.aload_n 0, 1) := by decide +kernel
theorem dX8_takes_15 : decode cX8_takes 15 = .ok (.getfield 68, 3) := by decide +kernel
theorem dX8_takes_18 : decode cX8_takes 18 = .ok (.putfield 77, 3) := by decide +kernel
theorem dX8_takes_21 : decode cX8_takes 21 = .ok (.iconst 0, 1) := by decide +kernel
theorem dX8_takes_22 : decode cX8_takes 22 = .ok (.ireturn, 1) := by decide +kernel
theorem dX8_takes_23 : decode cX8_takes 23 = .ok (.aload_n 0, 1) := by decide +kernel
theorem dX8_takes_24 : decode cX8_takes 24 = .ok (.getfield 74, 3) := by decide +kernel
theorem dX8_takes_27 : decode cX8_takes 27 = .ok (.istore_n 2, 1) := by decide +kernel
theorem dX8_takes_28 : decode cX8_takes 28 = .ok (.aload_n 0, 1) := by decide +kernel
theorem dX8_takes_29 : decode cX8_takes 29 = .ok (.invokevirtual 84, 3) := by decide +kernel
theorem dX8_takes_32 : decode cX8_takes 32 = .ok (.iload_n 2, 1) := by decide +kernel
theorem dX8_takes_33 : decode cX8_takes 33 = .ok (.ireturn, 1) := by decide +kernel
set_option maxRecDepth 20000 in
theorem ggX8_number_X8_in : GoodIn wsX8_number wsX8_in := goodIn_r _ [6] (by decide +kernel) (by decide +kernel)
set_option maxRecDepth 20000 in
theorem gX8_number_X8_in : GoodIn wsX8_number (va_wsS RX8 54 yX8_in wsX8_in) := goodIn_app (goodIn_of _ (by decide +kernel)) ggX8_number_X8_in
set_option maxRecDepth 20000 in
theorem ggX8_number_X8_takes : GoodIn wsX8_number wsX8_takes := goodIn_r _ [10, 11, 12, 2, 13, 14, 15, 5, 16, 17, 18, 19, 20, 21, 1, 22, 23, 24, 25, 26, 27, 3, 4, 6, 28, 29, 30, 31, 32, 33, 34, 35, 36, 37, 38, 39, 40, 41, 42, 43, 44, 45, 46, 47, 48, 49, 50, 51] (by decide +kernel) (by decide +kernel)
set_option maxRecDepth 20000 in
theorem gX8_number_X8_takes : GoodIn wsX8_number (wsV RX8 87 RX8 yX8_takes wsX8_takes) := goodIn_app (goodIn_of _ (by decide +kernel)) ggX8_number_X8_takes
theorem dX8_number_0 : decode cX8_number 0 = .ok (.aload_n 0, 1) := by decide +kernel
theorem dX8_number_1 : decode cX8_number 1 = .ok (.aload_n 0, 1) := by decide +kernel
theorem dX8_number_2 : decode cX8_number 2 = .ok (.getfield 71, 3) := by decide +kernel
theorem dX8_number_5 : decode cX8_number 5 = .ok (.iconst 2, 1) := by decide +kernel
theorem dX8_number_6 : decode cX8_number 6 = .ok (.if_icmp .ne 19, 3) := by decide +kernel
theorem dX8_number_9 : decode cX8_number 9 = .ok (.aload_n 0, 1) := by decide +kernel
theorem dX8_number_10 : decode cX8_number 10 = .ok (.getfield 74, 3) := by decide +kernel
theorem dX8_number_13 : decode cX8_number 13 = .ok (.iload_n 1, 1) := by decide +kernel
theorem dX8_number_14 : decode cX8_number 14 = .ok (.iload_n 2, 1) := by decide +kernel
theorem dX8_number_15 : decode cX8_number 15 = .ok (.invokestatic 54, 3) := by decide +kernel
theorem dX8_number_18 : decode cX8_number 18 = .ok (.ifCond .eq 7, 3) := by decide +kernel
theorem dX8_number_21 : decode cX8_number 21 = .ok (.iconst 1, 1) := by decide +kernel
theorem dX8_number_22 : decode cX8_number 22 = .ok (.goto 4, 3) := by decide +kernel
theorem dX8_number_25 : decode cX8_number 25 = .ok (.iconst 0, 1) := by decide +kernel
theorem dX8_number_26 : decode cX8_number 26 = .ok (.invokevirtual 87, 3) := by decide +kernel
theorem dX8_number_29 : decode cX8_number 29 = .ok (.ireturn, 1) := by decide +kernel
set_option maxRecDepth 20000 in
theorem ggX8_readsItem_X8_number : GoodIn wsX8_readsItem wsX8_number := goodIn_r _ [11, 12, 13, 14, 15, 10, 16, 17, 18, 19, 20, 21, 22, 23, 24, 25, 26, 27, 28, 29, 30, 31, 32, 33, 34, 35, 36, 37, 38, 39, 40, 41, 42, 43, 44, 45, 46, 47, 48, 49, 50, 51, 52, 53, 54, 55, 56, 57, 58, 59, 60, 61] (by decide +kernel) (by decide +kernel)
set_option maxRecDepth 20000 in
theorem gX8_readsItem_X8_number : GoodIn wsX8_readsItem (wsV RX8 91 RX8 yX8_number wsX8_number) := goodIn_app (goodIn_of _ (by decide +kernel)) ggX8_readsItem_X8_number
theorem dX8_readsItem_0 : decode cX8_readsItem 0 = .ok (.iload_n 1, 1) := by decide +kernel
theorem dX8_readsItem_1 : decode cX8_readsItem 1 = .ok (.bipush 111, 2) := by decide +kernel
theorem dX8_readsItem_3 : decode cX8_readsItem 3 = .ok (.if_icmp .ne 18, 3) := by decide +kernel
theorem dX8_readsItem_6 : decode cX8_readsItem 6 = .ok (.aload_n 0, 1) := by decide +kernel
theorem dX8_readsItem_7 : decode cX8_readsItem 7 = .ok (.getfield 13, 3) := by decide +kernel
theorem dX8_readsItem_10 : decode cX8_readsItem 10 = .ok (.iconst 4, 1) := by decide +kernel
theorem dX8_readsItem_11 : decode cX8_readsItem 11 = .ok (.aload_n 0, 1) := by decide +kernel
theorem dX8_readsItem_12 : decode cX8_readsItem 12 = .ok (.iconst 1, 1) := by decide +kernel
theorem dX8_readsItem_13 : decode cX8_readsItem 13 = .ok (.iconst 5, 1) := by decide +kernel
theorem dX8_readsItem_14 : decode cX8_readsItem 14 = .ok (.invokevirtual 91, 3) := by decide +kernel
theorem dX8_readsItem_17 : decode cX8_readsItem 17 = .ok (.iastore, 1) := by decide +kernel
theorem dX8_readsItem_18 : decode cX8_readsItem 18 = .ok (.goto 113, 3) := by decide +kernel
theorem dX8_readsItem_21 : decode cX8_readsItem 21 = .ok (.iload_n 1, 1) := by decide +kernel
theorem dX8_readsItem_22 : decode cX8_readsItem 22 = .ok (.bipush 116, 2) := by decide +kernel
theorem dX8_readsItem_24 : decode cX8_readsItem 24 = .ok (.if_icmp .ne 89, 3) := by decide +kernel
theorem dX8_readsItem_27 : decode cX8_readsItem 27 = .ok (.aload_n 0, 1) := by decide +kernel
theorem dX8_readsItem_28 : decode cX8_readsItem 28 = .ok (.getfield 13, 3) := by decide +kernel
theorem dX8_readsItem_31 : decode cX8_readsItem 31 = .ok (.iconst 3, 1) := by decide +kernel
theorem dX8_readsItem_32 : decode cX8_readsItem 32 = .ok (.iaload, 1) := by decide +kernel
theorem dX8_readsItem_33 : decode cX8_readsItem 33 = .ok (.istore_n 2, 1) := by decide +kernel
theorem dX8_readsItem_34 : decode cX8_readsItem 34 = .ok (.aload_n 0, 1) := by decide +kernel
theorem dX8_readsItem_35 : decode cX8_readsItem 35 = .ok (.getfield 16, 3) := by decide +kernel
theorem dX8_readsItem_38 : decode cX8_readsItem 38 = .ok (.bipush 7, 2) := by decide +kernel
theorem dX8_readsItem_40 : decode cX8_readsItem 40 = .ok (.iload_n 2, 1) := by decide +kernel
theorem dX8_readsItem_41 : decode cX8_readsItem 41 = .ok (.iadd, 1) := by decide +kernel
theorem dX8_readsItem_42 : decode cX8_readsItem 42 = .ok (.aload_n 0, 1) := by decide +kernel
theorem dX8_readsItem_43 : decode cX8_readsItem 43 = .ok (.iconst 0, 1) := by decide +kernel
theorem dX8_readsItem_44 : decode cX8_readsItem 44 = .ok (.iconst 3, 1) := by decide +kernel
theorem dX8_readsItem_45 : decode cX8_readsItem 45 = .ok (.invokevirtual 91, 3) := by decide +kernel
theorem dX8_readsItem_48 : decode cX8_readsItem 48 = .ok (.iastore, 1) := by decide +kernel
theorem dX8_readsItem_49 : decode cX8_readsItem 49 = .ok (.aload_n 0, 1) := by decide +kernel
theorem dX8_readsItem_50 : decode cX8_readsItem 50 = .ok (.getfield 19, 3) := by decide +kernel
theorem dX8_readsItem_53 : decode cX8_readsItem 53 = .ok (.bipush 7, 2) := by decide +kernel
theorem dX8_readsItem_55 : decode cX8_readsItem 55 = .ok (.iload_n 2, 1) := by decide +kernel
theorem dX8_readsItem_56 : decode cX8_readsItem 56 = .ok (.iadd, 1) := by decide +kernel
theorem dX8_readsItem_57 : decode cX8_readsItem 57 = .ok (.aload_n 0, 1) := by decide +kernel
theorem dX8_readsItem_58 : decode cX8_readsItem 58 = .ok (.iconst 1, 1) := by decide +kernel
theorem dX8_readsItem_59 : decode cX8_readsItem 59 = .ok (.bipush 9, 2) := by decide +kernel
theorem dX8_readsItem_61 : decode cX8_readsItem 61 = .ok (.invokevirtual 91, 3) := by decide +kernel
theorem dX8_readsItem_64 : decode cX8_readsItem 64 = .ok (.iastore, 1) := by decide +kernel
theorem dX8_readsItem_65 : decode cX8_readsItem 65 = .ok (.aload_n 0, 1) := by decide +kernel
theorem dX8_readsItem_66 : decode cX8_readsItem 66 = .ok (.getfield 22, 3) := by decide +kernel
theorem dX8_readsItem_69 : decode cX8_readsItem 69 = .ok (.bipush 7, 2) := by decide +kernel
theorem dX8_readsItem_71 : decode cX8_readsItem 71 = .ok (.iload_n 2, 1) := by decide +kernel
theorem dX8_readsItem_72 : decode cX8_readsItem 72 = .ok (.iadd, 1) := by decide +kernel
theorem dX8_readsItem_73 : decode cX8_readsItem 73 = .ok (.aload_n 0, 1) := by decide +kernel
theorem dX8_readsItem_74 : decode cX8_readsItem 74 = .ok (.iconst 0, 1) := by decide +kernel
theorem dX8_readsItem_75 : decode cX8_readsItem 75 = .ok (.bipush 31, 2) := by decide +kernel
theorem dX8_readsItem_77 : decode cX8_readsItem 77 = .ok (.invokevirtual 91, 3) := by decide +kernel
theorem dX8_readsItem_80 : decode cX8_readsItem 80 = .ok (.iastore, 1) := by decide +kernel
theorem dX8_readsItem_81 : decode cX8_readsItem 81 = .ok (.aload_n 0, 1) := by decide +kernel
theorem dX8_readsItem_82 : decode cX8_readsItem 82 = .ok (.getfield 25, 3) := by decide +kernel
theorem dX8_readsItem_85 : decode cX8_readsItem 85 = .ok (.iload_n 2, 1) := by decide +kernel
theorem dX8_readsItem_86 : decode cX8_readsItem 86 = .ok (.aload_n 0, 1) := by decide +kernel
theorem dX8_readsItem_87 : decode cX8_readsItem 87 = .ok (.iconst 0, 1) := by decide +kernel
theorem dX8_readsItem_88 : decode cX8_readsItem 88 = .ok (.aload_n 0, 1) := by decide +kernel
theorem dX8_readsItem_89 : decode cX8_readsItem 89 = .ok (.getfield 13, 3) := by decide +kernel
theorem dX8_readsItem_92 : decode cX8_readsItem 92 = .ok (.iconst 4, 1) := by decide +kernel
theorem dX8_readsItem_93 : decode cX8_readsItem 93 = .ok (.iaload, 1) := by decide +kernel
theorem dX8_readsItem_94 : decode cX8_readsItem 94 = .ok (.iconst 1, 1) := by decide +kernel
theorem dX8_readsItem_95 : decode cX8_readsItem 95 = .ok (.isub, 1) := by decide +kernel
theorem dX8_readsItem_96 : decode cX8_readsItem 96 = .ok (.invokevirtual 91, 3) := by decide +kernel
theorem dX8_readsItem_99 : decode cX8_readsItem 99 = .ok (.iastore, 1) := by decide +kernel
theorem dX8_readsItem_100 : decode cX8_readsItem 100 = .ok (.aload_n 0, 1) := by decide +kernel
theorem dX8_readsItem_101 : decode cX8_readsItem 101 = .ok (.getfield 13, 3) := by decide +kernel
theorem dX8_readsItem_104 : decode cX8_readsItem 104 = .ok (.iconst 3, 1) := by decide +kernel
theorem dX8_readsItem_105 : decode cX8_readsItem 105 = .ok (.dup2, 1) := by decide +kernel
theorem dX8_readsItem_106 : decode cX8_readsItem 106 = .ok (.iaload, 1) := by decide +kernel
theorem dX8_readsItem_107 : decode cX8_readsItem 107 = .ok (.iconst 1, 1) := by decide +kernel
theorem dX8_readsItem_108 : decode cX8_readsItem 108 = .ok (.iadd, 1) := by decide +kernel
theorem dX8_readsItem_109 : decode cX8_readsItem 109 = .ok (.iastore, 1) := by decide +kernel
theorem dX8_readsItem_110 : decode cX8_readsItem 110 = .ok (.goto 21, 3) := by decide +kernel
theorem dX8_readsItem_113 : decode cX8_readsItem 113 = .ok (.aload_n 0, 1) := by decide +kernel
theorem dX8_readsItem_114 : decode cX8_readsItem 114 = .ok (.getfield 13, 3) := by decide +kernel
theorem dX8_readsItem_117 : decode cX8_readsItem 117 = .ok (.iconst 5, 1) := by decide +kernel
theorem dX8_readsItem_118 : decode cX8_readsItem 118 = .ok (.aload_n 0, 1) := by decide +kernel
theorem dX8_readsItem_119 : decode cX8_readsItem 119 = .ok (.iconst 0, 1) := by decide +kernel
theorem dX8_readsItem_120 : decode cX8_readsItem 120 = .ok (.bipush 9, 2) := by decide +kernel
theorem dX8_readsItem_122 : decode cX8_readsItem 122 = .ok (.invokevirtual 91, 3) := by decide +kernel
theorem dX8_readsItem_125 : decode cX8_readsItem 125 = .ok (.iastore, 1) := by decide +kernel
theorem dX8_readsItem_126 : decode cX8_readsItem 126 = .ok (.aload_n 0, 1) := by decide +kernel
theorem dX8_readsItem_127 : decode cX8_readsItem 127 = .ok (.iconst 1, 1) := by decide +kernel
theorem dX8_readsItem_128 : decode cX8_readsItem 128 = .ok (.putfield 95, 3) := by decide +kernel
theorem dX8_readsItem_131 : decode cX8_readsItem 131 = .ok (.return_, 1) := by decide +kernel
set_option maxRecDepth 20000 in
theorem ggX8_council_X8_advances : GoodIn wsX8_council wsX8_advances := goodIn_r _ [12, 3, 13, 6, 7, 14, 15, 16, 11, 17, 18, 19, 20, 21, 22, 51, 52, 53, 54, 55, 56, 57, 58, 59, 60, 61, 62, 63, 64, 65, 66, 67, 68, 69, 70, 71, 72, 73, 74] (by decide +kernel) (by decide +kernel)
set_option maxRecDepth 20000 in
theorem gX8_council_X8_advances : GoodIn wsX8_council (wsV RX8 84 RX8 yX8_advances wsX8_advances) := goodIn_app (goodIn_of _ (by decide +kernel)) ggX8_council_X8_advances
set_option maxRecDepth 20000 in
theorem ggX8_council_X8_isWell : GoodIn wsX8_council wsX8_isWell := goodIn_r _ [26, 2, 51, 52, 53, 54, 55, 56, 57, 58, 59, 60, 61, 62, 63, 64, 65, 66, 67, 68, 69, 70, 71, 72, 73, 74] (by decide +kernel) (by decide +kernel)
set_option maxRecDepth 20000 in
theorem gX8_council_X8_isWell : GoodIn wsX8_council (wsV RX8 80 RX8 yX8_isWell wsX8_isWell) := goodIn_app (goodIn_of _ (by decide +kernel)) ggX8_council_X8_isWell
set_option maxRecDepth 20000 in
theorem ggX8_council_X8_takes : GoodIn wsX8_council wsX8_takes := goodIn_r _ [30, 13, 2, 7, 23, 24, 25, 11, 26, 8, 9, 10, 12, 3, 6, 14, 15, 16, 17, 18, 19, 20, 21, 22, 51, 52, 53, 54, 55, 56, 57, 58, 59, 60, 61, 62, 63, 64, 65, 66, 67, 68, 69, 70, 71, 72, 73, 74] (by decide +kernel) (by decide +kernel)
set_option maxRecDepth 20000 in
theorem gX8_council_X8_takes : GoodIn wsX8_council (wsV RX8 87 RX8 yX8_takes wsX8_takes) := goodIn_app (goodIn_of _ (by decide +kernel)) ggX8_council_X8_takes
set_option maxRecDepth 20000 in
theorem ggX8_council_X8_readsItem : GoodIn wsX8_council wsX8_readsItem := goodIn_r _ [34, 4, 35, 36, 37, 38, 5, 39, 40, 41, 11, 42, 6, 7, 20, 21, 22, 27, 28, 29, 30, 13, 2, 23, 24, 25, 26, 8, 9, 10, 12, 3, 14, 15, 16, 17, 18, 19, 51, 52, 53, 54, 55, 56, 57, 58, 59, 60, 61, 62, 63, 64, 65, 66, 67, 68, 69, 70, 71, 72, 73, 74] (by decide +kernel) (by decide +kernel)
set_option maxRecDepth 20000 in
theorem gX8_council_X8_readsItem : GoodIn wsX8_council (wsV RX8 99 RX8 yX8_readsItem wsX8_readsItem) := goodIn_app (goodIn_of _ (by decide +kernel)) ggX8_council_X8_readsItem
set_option maxRecDepth 20000 in
theorem ggX8_council_X8_settles : GoodIn wsX8_council wsX8_settles := goodIn_r _ [46, 4, 47, 35, 36, 37, 38, 18, 48, 49, 50, 51, 52, 53, 54, 55, 56, 57, 58, 59, 60, 61, 62, 63, 64, 65, 66, 67, 68, 69, 70, 71, 72, 73, 74] (by decide +kernel) (by decide +kernel)
set_option maxRecDepth 20000 in
theorem gX8_council_X8_settles : GoodIn wsX8_council (wsV RX8 103 RX8 yX8_settles wsX8_settles) := goodIn_app (goodIn_of _ (by decide +kernel)) ggX8_council_X8_settles
theorem dX8_council_0 : decode cX8_council 0 = .ok (.aload_n 0, 1) := by decide +kernel
theorem dX8_council_1 : decode cX8_council 1 = .ok (.iconst 0, 1) := by decide +kernel
theorem dX8_council_2 : decode cX8_council 2 = .ok (.putfield 50, 3) := by decide +kernel
theorem dX8_council_5 : decode cX8_council 5 = .ok (.aload_n 0, 1) := by decide +kernel
theorem dX8_council_6 : decode cX8_council 6 = .ok (.iconst (-1), 1) := by decide +kernel
theorem dX8_council_7 : decode cX8_council 7 = .ok (.putfield 77, 3) := by decide +kernel
theorem dX8_council_10 : decode cX8_council 10 = .ok (.aload_n 0, 1) := by decide +kernel
theorem dX8_council_11 : decode cX8_council 11 = .ok (.iconst 0, 1) := by decide +kernel
theorem dX8_council_12 : decode cX8_council 12 = .ok (.putfield 61, 3) := by decide +kernel
theorem dX8_council_15 : decode cX8_council 15 = .ok (.iconst 0, 1) := by decide +kernel
theorem dX8_council_16 : decode cX8_council 16 = .ok (.istore_n 1, 1) := by decide +kernel
theorem dX8_council_17 : decode cX8_council 17 = .ok (.aload_n 0, 1) := by decide +kernel
theorem dX8_council_18 : decode cX8_council 18 = .ok (.getfield 13, 3) := by decide +kernel
theorem dX8_council_21 : decode cX8_council 21 = .ok (.iconst 3, 1) := by decide +kernel
theorem dX8_council_22 : decode cX8_council 22 = .ok (.iconst 0, 1) := by decide +kernel
theorem dX8_council_23 : decode cX8_council 23 = .ok (.iastore, 1) := by decide +kernel
theorem dX8_council_24 : decode cX8_council 24 = .ok (.aload_n 0, 1) := by decide +kernel
theorem dX8_council_25 : decode cX8_council 25 = .ok (.getfield 13, 3) := by decide +kernel
theorem dX8_council_28 : decode cX8_council 28 = .ok (.iconst 4, 1) := by decide +kernel
theorem dX8_council_29 : decode cX8_council 29 = .ok (.iconst 3, 1) := by decide +kernel
theorem dX8_council_30 : decode cX8_council 30 = .ok (.iastore, 1) := by decide +kernel
theorem dX8_council_31 : decode cX8_council 31 = .ok (.aload_n 0, 1) := by decide +kernel
theorem dX8_council_32 : decode cX8_council 32 = .ok (.getfield 13, 3) := by decide +kernel
theorem dX8_council_35 : decode cX8_council 35 = .ok (.iconst 5, 1) := by decide +kernel
theorem dX8_council_36 : decode cX8_council 36 = .ok (.iconst 2, 1) := by decide +kernel
theorem dX8_council_37 : decode cX8_council 37 = .ok (.iastore, 1) := by decide +kernel
theorem dX8_council_38 : decode cX8_council 38 = .ok (.aload_n 0, 1) := by decide +kernel
theorem dX8_council_39 : decode cX8_council 39 = .ok (.iconst 0, 1) := by decide +kernel
theorem dX8_council_40 : decode cX8_council 40 = .ok (.putfield 95, 3) := by decide +kernel
theorem dX8_council_43 : decode cX8_council 43 = .ok (.aload_n 0, 1) := by decide +kernel
theorem dX8_council_44 : decode cX8_council 44 = .ok (.invokevirtual 84, 3) := by decide +kernel
theorem dX8_council_47 : decode cX8_council 47 = .ok (.aload_n 0, 1) := by decide +kernel
theorem dX8_council_48 : decode cX8_council 48 = .ok (.invokevirtual 80, 3) := by decide +kernel
theorem dX8_council_51 : decode cX8_council 51 = .ok (.ifCond .eq 110, 3) := by decide +kernel
theorem dX8_council_54 : decode cX8_council 54 = .ok (.aload_n 0, 1) := by decide +kernel
theorem dX8_council_55 : decode cX8_council 55 = .ok (.getfield 71, 3) := by decide +kernel
theorem dX8_council_58 : decode cX8_council 58 = .ok (.ifCond .eq 103, 3) := by decide +kernel
theorem dX8_council_61 : decode cX8_council 61 = .ok (.aload_n 0, 1) := by decide +kernel
theorem dX8_council_62 : decode cX8_council 62 = .ok (.aload_n 0, 1) := by decide +kernel
theorem dX8_council_63 : decode cX8_council 63 = .ok (.getfield 71, 3) := by decide +kernel
theorem dX8_council_66 : decode cX8_council 66 = .ok (.iconst 1, 1) := by decide +kernel
theorem dX8_council_67 : decode cX8_council 67 = .ok (.if_icmp .ne 53, 3) := by decide +kernel
theorem dX8_council_70 : decode cX8_council 70 = .ok (.aload_n 0, 1) := by decide +kernel
theorem dX8_council_71 : decode cX8_council 71 = .ok (.getfield 74, 3) := by decide +kernel
theorem dX8_council_74 : decode cX8_council 74 = .ok (.bipush 111, 2) := by decide +kernel
theorem dX8_council_76 : decode cX8_council 76 = .ok (.if_icmp .ne 10, 3) := by decide +kernel
theorem dX8_council_79 : decode cX8_council 79 = .ok (.iload_n 1, 1) := by decide +kernel
theorem dX8_council_80 : decode cX8_council 80 = .ok (.ifCond .ne 40, 3) := by decide +kernel
theorem dX8_council_83 : decode cX8_council 83 = .ok (.goto 33, 3) := by decide +kernel
theorem dX8_council_86 : decode cX8_council 86 = .ok (.aload_n 0, 1) := by decide +kernel
theorem dX8_council_87 : decode cX8_council 87 = .ok (.getfield 74, 3) := by decide +kernel
theorem dX8_council_90 : decode cX8_council 90 = .ok (.bipush 116, 2) := by decide +kernel
theorem dX8_council_92 : decode cX8_council 92 = .ok (.if_icmp .ne 17, 3) := by decide +kernel
theorem dX8_council_95 : decode cX8_council 95 = .ok (.aload_n 0, 1) := by decide +kernel
theorem dX8_council_96 : decode cX8_council 96 = .ok (.getfield 13, 3) := by decide +kernel
theorem dX8_council_99 : decode cX8_council 99 = .ok (.iconst 3, 1) := by decide +kernel
theorem dX8_council_100 : decode cX8_council 100 = .ok (.iaload, 1) := by decide +kernel
theorem dX8_council_101 : decode cX8_council 101 = .ok (.bipush 7, 2) := by decide +kernel
theorem dX8_council_103 : decode cX8_council 103 = .ok (.if_icmp .ge 17, 3) := by decide +kernel
theorem dX8_council_106 : decode cX8_council 106 = .ok (.goto 10, 3) := by decide +kernel
theorem dX8_council_109 : decode cX8_council 109 = .ok (.aload_n 0, 1) := by decide +kernel
theorem dX8_council_110 : decode cX8_council 110 = .ok (.getfield 95, 3) := by decide +kernel
theorem dX8_council_113 : decode cX8_council 113 = .ok (.ifCond .ne 7, 3) := by decide +kernel
theorem dX8_council_116 : decode cX8_council 116 = .ok (.iconst 1, 1) := by decide +kernel
theorem dX8_council_117 : decode cX8_council 117 = .ok (.goto 4, 3) := by decide +kernel
theorem dX8_council_120 : decode cX8_council 120 = .ok (.iconst 0, 1) := by decide +kernel
theorem dX8_council_121 : decode cX8_council 121 = .ok (.invokevirtual 87, 3) := by decide +kernel
theorem dX8_council_124 : decode cX8_council 124 = .ok (.istore_n 2, 1) := by decide +kernel
theorem dX8_council_125 : decode cX8_council 125 = .ok (.aload_n 0, 1) := by decide +kernel
theorem dX8_council_126 : decode cX8_council 126 = .ok (.invokevirtual 80, 3) := by decide +kernel
theorem dX8_council_129 : decode cX8_council 129 = .ok (.ifCond .eq 8, 3) := by decide +kernel
theorem dX8_council_132 : decode cX8_council 132 = .ok (.aload_n 0, 1) := by decide +kernel
theorem dX8_council_133 : decode cX8_council 133 = .ok (.iload_n 2, 1) := by decide +kernel
theorem dX8_council_134 : decode cX8_council 134 = .ok (.invokevirtual 99, 3) := by decide +kernel
theorem dX8_council_137 : decode cX8_council 137 = .ok (.aload_n 0, 1) := by decide +kernel
theorem dX8_council_138 : decode cX8_council 138 = .ok (.aload_n 0, 1) := by decide +kernel
theorem dX8_council_139 : decode cX8_council 139 = .ok (.getfield 71, 3) := by decide +kernel
theorem dX8_council_142 : decode cX8_council 142 = .ok (.iconst 3, 1) := by decide +kernel
theorem dX8_council_143 : decode cX8_council 143 = .ok (.if_icmp .ne 7, 3) := by decide +kernel
theorem dX8_council_146 : decode cX8_council 146 = .ok (.iconst 1, 1) := by decide +kernel
theorem dX8_council_147 : decode cX8_council 147 = .ok (.goto 4, 3) := by decide +kernel
theorem dX8_council_150 : decode cX8_council 150 = .ok (.iconst 0, 1) := by decide +kernel
theorem dX8_council_151 : decode cX8_council 151 = .ok (.invokevirtual 87, 3) := by decide +kernel
theorem dX8_council_154 : decode cX8_council 154 = .ok (.pop, 1) := by decide +kernel
theorem dX8_council_155 : decode cX8_council 155 = .ok (.iinc 1 1, 3) := by decide +kernel
theorem dX8_council_158 : decode cX8_council 158 = .ok (.goto (-111), 3) := by decide +kernel
theorem dX8_council_161 : decode cX8_council 161 = .ok (.aload_n 0, 1) := by decide +kernel
theorem dX8_council_162 : decode cX8_council 162 = .ok (.invokevirtual 80, 3) := by decide +kernel
theorem dX8_council_165 : decode cX8_council 165 = .ok (.ifCond .ne 11, 3) := by decide +kernel
theorem dX8_council_168 : decode cX8_council 168 = .ok (.bipush (-10), 2) := by decide +kernel
theorem dX8_council_170 : decode cX8_council 170 = .ok (.aload_n 0, 1) := by decide +kernel
theorem dX8_council_171 : decode cX8_council 171 = .ok (.getfield 77, 3) := by decide +kernel
theorem dX8_council_174 : decode cX8_council 174 = .ok (.isub, 1) := by decide +kernel
theorem dX8_council_175 : decode cX8_council 175 = .ok (.ireturn, 1) := by decide +kernel
theorem dX8_council_176 : decode cX8_council 176 = .ok (.aload_n 0, 1) := by decide +kernel
theorem dX8_council_177 : decode cX8_council 177 = .ok (.invokevirtual 103, 3) := by decide +kernel
theorem dX8_council_180 : decode cX8_council 180 = .ok (.iload_n 1, 1) := by decide +kernel
theorem dX8_council_181 : decode cX8_council 181 = .ok (.ireturn, 1) := by decide +kernel
theorem dX8_settles_0 : decode cX8_settles 0 = .ok (.iconst 0, 1) := by decide +kernel
theorem dX8_settles_1 : decode cX8_settles 1 = .ok (.istore_n 1, 1) := by decide +kernel
theorem dX8_settles_2 : decode cX8_settles 2 = .ok (.iload_n 1, 1) := by decide +kernel
theorem dX8_settles_3 : decode cX8_settles 3 = .ok (.iconst 3, 1) := by decide +kernel
theorem dX8_settles_4 : decode cX8_settles 4 = .ok (.if_icmp .ge 23, 3) := by decide +kernel
theorem dX8_settles_7 : decode cX8_settles 7 = .ok (.aload_n 0, 1) := by decide +kernel
theorem dX8_settles_8 : decode cX8_settles 8 = .ok (.getfield 13, 3) := by decide +kernel
theorem dX8_settles_11 : decode cX8_settles 11 = .ok (.iload_n 1, 1) := by decide +kernel
theorem dX8_settles_12 : decode cX8_settles 12 = .ok (.aload_n 0, 1) := by decide +kernel
theorem dX8_settles_13 : decode cX8_settles 13 = .ok (.getfield 13, 3) := by decide +kernel
theorem dX8_settles_16 : decode cX8_settles 16 = .ok (.iconst 3, 1) := by decide +kernel
theorem dX8_settles_17 : decode cX8_settles 17 = .ok (.iload_n 1, 1) := by decide +kernel
theorem dX8_settles_18 : decode cX8_settles 18 = .ok (.iadd, 1) := by decide +kernel
theorem dX8_settles_19 : decode cX8_settles 19 = .ok (.iaload, 1) := by decide +kernel
theorem dX8_settles_20 : decode cX8_settles 20 = .ok (.iastore, 1) := by decide +kernel
theorem dX8_settles_21 : decode cX8_settles 21 = .ok (.iinc 1 1, 3) := by decide +kernel
theorem dX8_settles_24 : decode cX8_settles 24 = .ok (.goto (-22), 3) := by decide +kernel
theorem dX8_settles_27 : decode cX8_settles 27 = .ok (.iconst 0, 1) := by decide +kernel
theorem dX8_settles_28 : decode cX8_settles 28 = .ok (.istore_n 1, 1) := by decide +kernel
theorem dX8_settles_29 : decode cX8_settles 29 = .ok (.iload_n 1, 1) := by decide +kernel
theorem dX8_settles_30 : decode cX8_settles 30 = .ok (.bipush 19, 2) := by decide +kernel
theorem dX8_settles_32 : decode cX8_settles 32 = .ok (.if_icmp .ge 16, 3) := by decide +kernel
theorem dX8_settles_35 : decode cX8_settles 35 = .ok (.aload_n 0, 1) := by decide +kernel
theorem dX8_settles_36 : decode cX8_settles 36 = .ok (.getfield 28, 3) := by decide +kernel
theorem dX8_settles_39 : decode cX8_settles 39 = .ok (.iload_n 1, 1) := by decide +kernel
theorem dX8_settles_40 : decode cX8_settles 40 = .ok (.iconst 0, 1) := by decide +kernel
theorem dX8_settles_41 : decode cX8_settles 41 = .ok (.iastore, 1) := by decide +kernel
theorem dX8_settles_42 : decode cX8_settles 42 = .ok (.iinc 1 1, 3) := by decide +kernel
theorem dX8_settles_45 : decode cX8_settles 45 = .ok (.goto (-16), 3) := by decide +kernel
theorem dX8_settles_48 : decode cX8_settles 48 = .ok (.iconst 0, 1) := by decide +kernel
theorem dX8_settles_49 : decode cX8_settles 49 = .ok (.istore_n 1, 1) := by decide +kernel
theorem dX8_settles_50 : decode cX8_settles 50 = .ok (.iload_n 1, 1) := by decide +kernel
theorem dX8_settles_51 : decode cX8_settles 51 = .ok (.aload_n 0, 1) := by decide +kernel
theorem dX8_settles_52 : decode cX8_settles 52 = .ok (.getfield 13, 3) := by decide +kernel
theorem dX8_settles_55 : decode cX8_settles 55 = .ok (.iconst 0, 1) := by decide +kernel
theorem dX8_settles_56 : decode cX8_settles 56 = .ok (.iaload, 1) := by decide +kernel
theorem dX8_settles_57 : decode cX8_settles 57 = .ok (.if_icmp .ge 68, 3) := by decide +kernel
theorem dX8_settles_60 : decode cX8_settles 60 = .ok (.aload_n 0, 1) := by decide +kernel
theorem dX8_settles_61 : decode cX8_settles 61 = .ok (.getfield 16, 3) := by decide +kernel
theorem dX8_settles_64 : decode cX8_settles 64 = .ok (.iload_n 1, 1) := by decide +kernel
theorem dX8_settles_65 : decode cX8_settles 65 = .ok (.aload_n 0, 1) := by decide +kernel
theorem dX8_settles_66 : decode cX8_settles 66 = .ok (.getfield 16, 3) := by decide +kernel
theorem dX8_settles_69 : decode cX8_settles 69 = .ok (.bipush 7, 2) := by decide +kernel
theorem dX8_settles_71 : decode cX8_settles 71 = .ok (.iload_n 1, 1) := by decide +kernel
theorem dX8_settles_72 : decode cX8_settles 72 = .ok (.iadd, 1) := by decide +kernel
theorem dX8_settles_73 : decode cX8_settles 73 = .ok (.iaload, 1) := by decide +kernel
theorem dX8_settles_74 : decode cX8_settles 74 = .ok (.iastore, 1) := by decide +kernel
theorem dX8_settles_75 : decode cX8_settles 75 = .ok (.aload_n 0, 1) := by decide +kernel
theorem dX8_settles_76 : decode cX8_settles 76 = .ok (.getfield 19, 3) := by decide +kernel
theorem dX8_settles_79 : decode cX8_settles 79 = .ok (.iload_n 1, 1) := by decide +kernel
theorem dX8_settles_80 : decode cX8_settles 80 = .ok (.aload_n 0, 1) := by decide +kernel
theorem dX8_settles_81 : decode cX8_settles 81 = .ok (.getfield 19, 3) := by decide +kernel
theorem dX8_settles_84 : decode cX8_settles 84 = .ok (.bipush 7, 2) := by decide +kernel
theorem dX8_settles_86 : decode cX8_settles 86 = .ok (.iload_n 1, 1) := by decide +kernel
theorem dX8_settles_87 : decode cX8_settles 87 = .ok (.iadd, 1) := by decide +kernel
theorem dX8_settles_88 : decode cX8_settles 88 = .ok (.iaload, 1) := by decide +kernel
theorem dX8_settles_89 : decode cX8_settles 89 = .ok (.iastore, 1) := by decide +kernel
theorem dX8_settles_90 : decode cX8_settles 90 = .ok (.aload_n 0, 1) := by decide +kernel
theorem dX8_settles_91 : decode cX8_settles 91 = .ok (.getfield 22, 3) := by decide +kernel
theorem dX8_settles_94 : decode cX8_settles 94 = .ok (.iload_n 1, 1) := by decide +kernel
theorem dX8_settles_95 : decode cX8_settles 95 = .ok (.aload_n 0, 1) := by decide +kernel
theorem dX8_settles_96 : decode cX8_settles 96 = .ok (.getfield 22, 3) := by decide +kernel
theorem dX8_settles_99 : decode cX8_settles 99 = .ok (.bipush 7, 2) := by decide +kernel
theorem dX8_settles_101 : decode cX8_settles 101 = .ok (.iload_n 1, 1) := by decide +kernel
theorem dX8_settles_102 : decode cX8_settles 102 = .ok (.iadd, 1) := by decide +kernel
theorem dX8_settles_103 : decode cX8_settles 103 = .ok (.iaload, 1) := by decide +kernel
theorem dX8_settles_104 : decode cX8_settles 104 = .ok (.iastore, 1) := by decide +kernel
theorem dX8_settles_105 : decode cX8_settles 105 = .ok (.aload_n 0, 1) := by decide +kernel
theorem dX8_settles_106 : decode cX8_settles 106 = .ok (.getfield 28, 3) := by decide +kernel
theorem dX8_settles_109 : decode cX8_settles 109 = .ok (.iconst 0, 1) := by decide +kernel
theorem dX8_settles_110 : decode cX8_settles 110 = .ok (.iload_n 1, 1) := by decide +kernel
theorem dX8_settles_111 : decode cX8_settles 111 = .ok (.iadd, 1) := by decide +kernel
theorem dX8_settles_112 : decode cX8_settles 112 = .ok (.aload_n 0, 1) := by decide +kernel
theorem dX8_settles_113 : decode cX8_settles 113 = .ok (.getfield 25, 3) := by decide +kernel
theorem dX8_settles_116 : decode cX8_settles 116 = .ok (.iload_n 1, 1) := by decide +kernel
theorem dX8_settles_117 : decode cX8_settles 117 = .ok (.iaload, 1) := by decide +kernel
theorem dX8_settles_118 : decode cX8_settles 118 = .ok (.iastore, 1) := by decide +kernel
theorem dX8_settles_119 : decode cX8_settles 119 = .ok (.iinc 1 1, 3) := by decide +kernel
theorem dX8_settles_122 : decode cX8_settles 122 = .ok (.goto (-72), 3) := by decide +kernel
theorem dX8_settles_125 : decode cX8_settles 125 = .ok (.aload_n 0, 1) := by decide +kernel
theorem dX8_settles_126 : decode cX8_settles 126 = .ok (.iconst 0, 1) := by decide +kernel
theorem dX8_settles_127 : decode cX8_settles 127 = .ok (.putfield 58, 3) := by decide +kernel
theorem dX8_settles_130 : decode cX8_settles 130 = .ok (.aload_n 0, 1) := by decide +kernel
theorem dX8_settles_131 : decode cX8_settles 131 = .ok (.iconst 0, 1) := by decide +kernel
theorem dX8_settles_132 : decode cX8_settles 132 = .ok (.putfield 106, 3) := by decide +kernel
theorem dX8_settles_135 : decode cX8_settles 135 = .ok (.aload_n 0, 1) := by decide +kernel
theorem dX8_settles_136 : decode cX8_settles 136 = .ok (.iconst 0, 1) := by decide +kernel
theorem dX8_settles_137 : decode cX8_settles 137 = .ok (.putfield 109, 3) := by decide +kernel
theorem dX8_settles_140 : decode cX8_settles 140 = .ok (.aload_n 0, 1) := by decide +kernel
theorem dX8_settles_141 : decode cX8_settles 141 = .ok (.getfield 37, 3) := by decide +kernel
theorem dX8_settles_144 : decode cX8_settles 144 = .ok (.iconst 0, 1) := by decide +kernel
theorem dX8_settles_145 : decode cX8_settles 145 = .ok (.iconst 0, 1) := by decide +kernel
theorem dX8_settles_146 : decode cX8_settles 146 = .ok (.bastore, 1) := by decide +kernel
theorem dX8_settles_147 : decode cX8_settles 147 = .ok (.aload_n 0, 1) := by decide +kernel
theorem dX8_settles_148 : decode cX8_settles 148 = .ok (.getfield 37, 3) := by decide +kernel
theorem dX8_settles_151 : decode cX8_settles 151 = .ok (.iconst 1, 1) := by decide +kernel
theorem dX8_settles_152 : decode cX8_settles 152 = .ok (.iconst 0, 1) := by decide +kernel
theorem dX8_settles_153 : decode cX8_settles 153 = .ok (.bastore, 1) := by decide +kernel
theorem dX8_settles_154 : decode cX8_settles 154 = .ok (.return_, 1) := by decide +kernel
set_option maxRecDepth 20000 in
theorem ggX8_isThing_X8_in : GoodIn wsX8_isThing wsX8_in := goodIn_r _ [5] (by decide +kernel) (by decide +kernel)
set_option maxRecDepth 20000 in
theorem gX8_isThing_X8_in : GoodIn wsX8_isThing (va_wsS RX8 54 yX8_in wsX8_in) := goodIn_app (goodIn_of _ (by decide +kernel)) ggX8_isThing_X8_in
theorem dX8_isThing_0 : decode cX8_isThing 0 = .ok (.iload_n 1, 1) := by decide +kernel
theorem dX8_isThing_1 : decode cX8_isThing 1 = .ok (.iconst 0, 1) := by decide +kernel
theorem dX8_isThing_2 : decode cX8_isThing 2 = .ok (.aload_n 0, 1) := by decide +kernel
theorem dX8_isThing_3 : decode cX8_isThing 3 = .ok (.getfield 13, 3) := by decide +kernel
theorem dX8_isThing_6 : decode cX8_isThing 6 = .ok (.iconst 0, 1) := by decide +kernel
theorem dX8_isThing_7 : decode cX8_isThing 7 = .ok (.iaload, 1) := by decide +kernel
theorem dX8_isThing_8 : decode cX8_isThing 8 = .ok (.iconst 1, 1) := by decide +kernel
theorem dX8_isThing_9 : decode cX8_isThing 9 = .ok (.isub, 1) := by decide +kernel
theorem dX8_isThing_10 : decode cX8_isThing 10 = .ok (.invokestatic 54, 3) := by decide +kernel
theorem dX8_isThing_13 : decode cX8_isThing 13 = .ok (.ireturn, 1) := by decide +kernel
set_option maxRecDepth 20000 in
theorem ggX8_isOfficer_X8_in : GoodIn wsX8_isOfficer wsX8_in := goodIn_r _ [5] (by decide +kernel) (by decide +kernel)
set_option maxRecDepth 20000 in
theorem gX8_isOfficer_X8_in : GoodIn wsX8_isOfficer (va_wsS RX8 54 yX8_in wsX8_in) := goodIn_app (goodIn_of _ (by decide +kernel)) ggX8_isOfficer_X8_in
theorem dX8_isOfficer_0 : decode cX8_isOfficer 0 = .ok (.iload_n 1, 1) := by decide +kernel
theorem dX8_isOfficer_1 : decode cX8_isOfficer 1 = .ok (.iconst 0, 1) := by decide +kernel
theorem dX8_isOfficer_2 : decode cX8_isOfficer 2 = .ok (.aload_n 0, 1) := by decide +kernel
theorem dX8_isOfficer_3 : decode cX8_isOfficer 3 = .ok (.getfield 13, 3) := by decide +kernel
theorem dX8_isOfficer_6 : decode cX8_isOfficer 6 = .ok (.iconst 1, 1) := by decide +kernel
theorem dX8_isOfficer_7 : decode cX8_isOfficer 7 = .ok (.iaload, 1) := by decide +kernel
theorem dX8_isOfficer_8 : decode cX8_isOfficer 8 = .ok (.iconst 1, 1) := by decide +kernel
theorem dX8_isOfficer_9 : decode cX8_isOfficer 9 = .ok (.isub, 1) := by decide +kernel
theorem dX8_isOfficer_10 : decode cX8_isOfficer 10 = .ok (.invokestatic 54, 3) := by decide +kernel
theorem dX8_isOfficer_13 : decode cX8_isOfficer 13 = .ok (.ireturn, 1) := by decide +kernel
set_option maxRecDepth 20000 in
theorem ggX8_isBill_X8_in : GoodIn wsX8_isBill wsX8_in := goodIn_r _ [4] (by decide +kernel) (by decide +kernel)
set_option maxRecDepth 20000 in
theorem gX8_isBill_X8_in : GoodIn wsX8_isBill (va_wsS RX8 54 yX8_in wsX8_in) := goodIn_app (goodIn_of _ (by decide +kernel)) ggX8_isBill_X8_in
theorem dX8_isBill_0 : decode cX8_isBill 0 = .ok (.iload_n 0, 1) := by decide +kernel
theorem dX8_isBill_1 : decode cX8_isBill 1 = .ok (.iconst 0, 1) := by decide +kernel
theorem dX8_isBill_2 : decode cX8_isBill 2 = .ok (.iconst 4, 1) := by decide +kernel
theorem dX8_isBill_3 : decode cX8_isBill 3 = .ok (.invokestatic 54, 3) := by decide +kernel
theorem dX8_isBill_6 : decode cX8_isBill 6 = .ok (.ireturn, 1) := by decide +kernel
theorem dX8_speaks_0 : decode cX8_speaks 0 = .ok (.aload_n 1, 1) := by decide +kernel
theorem dX8_speaks_1 : decode cX8_speaks 1 = .ok (.bipush 14, 2) := by decide +kernel
theorem dX8_speaks_3 : decode cX8_speaks 3 = .ok (.iaload, 1) := by decide +kernel
theorem dX8_speaks_4 : decode cX8_speaks 4 = .ok (.iload_n 2, 1) := by decide +kernel
theorem dX8_speaks_5 : decode cX8_speaks 5 = .ok (.ishr, 1) := by decide +kernel
theorem dX8_speaks_6 : decode cX8_speaks 6 = .ok (.iconst 1, 1) := by decide +kernel
theorem dX8_speaks_7 : decode cX8_speaks 7 = .ok (.iand, 1) := by decide +kernel
theorem dX8_speaks_8 : decode cX8_speaks 8 = .ok (.ifCond .ne 22, 3) := by decide +kernel
theorem dX8_speaks_11 : decode cX8_speaks 11 = .ok (.aload_n 1, 1) := by decide +kernel
theorem dX8_speaks_12 : decode cX8_speaks 12 = .ok (.bipush 16, 2) := by decide +kernel
theorem dX8_speaks_14 : decode cX8_speaks 14 = .ok (.iaload, 1) := by decide +kernel
theorem dX8_speaks_15 : decode cX8_speaks 15 = .ok (.aload_n 1, 1) := by decide +kernel
theorem dX8_speaks_16 : decode cX8_speaks 16 = .ok (.iconst 0, 1) := by decide +kernel
theorem dX8_speaks_17 : decode cX8_speaks 17 = .ok (.iload_n 2, 1) := by decide +kernel
theorem dX8_speaks_18 : decode cX8_speaks 18 = .ok (.iadd, 1) := by decide +kernel
theorem dX8_speaks_19 : decode cX8_speaks 19 = .ok (.iaload, 1) := by decide +kernel
theorem dX8_speaks_20 : decode cX8_speaks 20 = .ok (.ishr, 1) := by decide +kernel
theorem dX8_speaks_21 : decode cX8_speaks 21 = .ok (.iconst 1, 1) := by decide +kernel
theorem dX8_speaks_22 : decode cX8_speaks 22 = .ok (.iand, 1) := by decide +kernel
theorem dX8_speaks_23 : decode cX8_speaks 23 = .ok (.ifCond .ne 7, 3) := by decide +kernel
theorem dX8_speaks_26 : decode cX8_speaks 26 = .ok (.iconst 1, 1) := by decide +kernel
theorem dX8_speaks_27 : decode cX8_speaks 27 = .ok (.goto 4, 3) := by decide +kernel
theorem dX8_speaks_30 : decode cX8_speaks 30 = .ok (.iconst 0, 1) := by decide +kernel
theorem dX8_speaks_31 : decode cX8_speaks 31 = .ok (.istore_n 3, 1) := by decide +kernel
theorem dX8_speaks_32 : decode cX8_speaks 32 = .ok (.iload_n 3, 1) := by decide +kernel
theorem dX8_speaks_33 : decode cX8_speaks 33 = .ok (.ifCond .eq 36, 3) := by decide +kernel
theorem dX8_speaks_36 : decode cX8_speaks 36 = .ok (.aload_n 0, 1) := by decide +kernel
theorem dX8_speaks_37 : decode cX8_speaks 37 = .ok (.getfield 16, 3) := by decide +kernel
theorem dX8_speaks_40 : decode cX8_speaks 40 = .ok (.iload_n 2, 1) := by decide +kernel
theorem dX8_speaks_41 : decode cX8_speaks 41 = .ok (.iaload, 1) := by decide +kernel
theorem dX8_speaks_42 : decode cX8_speaks 42 = .ok (.iconst 3, 1) := by decide +kernel
theorem dX8_speaks_43 : decode cX8_speaks 43 = .ok (.if_icmp .eq 26, 3) := by decide +kernel
end
section
theorem dX8_speaks_46 : decode cX8_speaks 46 = .ok (.aload_n 0, 1) := by decide +kernel
theorem dX8_speaks_47 : decode cX8_speaks 47 = .ok (.getfield 16, 3) := by decide +kernel
theorem dX8_speaks_50 : decode cX8_speaks 50 = .ok (.iload_n 2, 1) := by decide +kernel
theorem dX8_speaks_51 : decode cX8_speaks 51 = .ok (.iaload, 1) := by decide +kernel
theorem dX8_speaks_52 : decode cX8_speaks 52 = .ok (.iconst 1, 1) := by decide +kernel
theorem dX8_speaks_53 : decode cX8_speaks 53 = .ok (.if_icmp .ne 12, 3) := by decide +kernel
theorem dX8_speaks_56 : decode cX8_speaks 56 = .ok (.aload_n 1, 1) := by decide +kernel
theorem dX8_speaks_57 : decode cX8_speaks 57 = .ok (.bipush 7, 2) := by decide +kernel
theorem dX8_speaks_59 : decode cX8_speaks 59 = .ok (.iload_n 2, 1) := by decide +kernel
theorem dX8_speaks_60 : decode cX8_speaks 60 = .ok (.iadd, 1) := by decide +kernel
theorem dX8_speaks_61 : decode cX8_speaks 61 = .ok (.iaload, 1) := by decide +kernel
theorem dX8_speaks_62 : decode cX8_speaks 62 = .ok (.ifCond .le 7, 3) := by decide +kernel
theorem dX8_speaks_65 : decode cX8_speaks 65 = .ok (.iconst 1, 1) := by decide +kernel
theorem dX8_speaks_66 : decode cX8_speaks 66 = .ok (.goto 4, 3) := by decide +kernel
theorem dX8_speaks_69 : decode cX8_speaks 69 = .ok (.iconst 0, 1) := by decide +kernel
theorem dX8_speaks_70 : decode cX8_speaks 70 = .ok (.ireturn, 1) := by decide +kernel
set_option maxRecDepth 20000 in
theorem ggX8_voices_X8_speaks : GoodIn wsX8_voices wsX8_speaks := goodIn_r _ [6, 7, 8, 9, 10, 11, 12, 13, 14, 15, 16, 17, 18, 19, 20, 21, 22, 23, 24, 25, 26, 27, 28, 29, 30, 31] (by decide +kernel) (by decide +kernel)
set_option maxRecDepth 20000 in
theorem gX8_voices_X8_speaks : GoodIn wsX8_voices (wsV RX8 112 RX8 yX8_speaks wsX8_speaks) := goodIn_app (goodIn_of _ (by decide +kernel)) ggX8_voices_X8_speaks
theorem dX8_voices_0 : decode cX8_voices 0 = .ok (.iconst 0, 1) := by decide +kernel
theorem dX8_voices_1 : decode cX8_voices 1 = .ok (.istore_n 2, 1) := by decide +kernel
theorem dX8_voices_2 : decode cX8_voices 2 = .ok (.iconst 0, 1) := by decide +kernel
theorem dX8_voices_3 : decode cX8_voices 3 = .ok (.istore_n 3, 1) := by decide +kernel
theorem dX8_voices_4 : decode cX8_voices 4 = .ok (.iload_n 3, 1) := by decide +kernel
theorem dX8_voices_5 : decode cX8_voices 5 = .ok (.aload_n 0, 1) := by decide +kernel
theorem dX8_voices_6 : decode cX8_voices 6 = .ok (.getfield 13, 3) := by decide +kernel
theorem dX8_voices_9 : decode cX8_voices 9 = .ok (.iconst 0, 1) := by decide +kernel
theorem dX8_voices_10 : decode cX8_voices 10 = .ok (.iaload, 1) := by decide +kernel
theorem dX8_voices_11 : decode cX8_voices 11 = .ok (.if_icmp .ge 28, 3) := by decide +kernel
theorem dX8_voices_14 : decode cX8_voices 14 = .ok (.iload_n 2, 1) := by decide +kernel
theorem dX8_voices_15 : decode cX8_voices 15 = .ok (.aload_n 0, 1) := by decide +kernel
theorem dX8_voices_16 : decode cX8_voices 16 = .ok (.aload_n 1, 1) := by decide +kernel
theorem dX8_voices_17 : decode cX8_voices 17 = .ok (.iload_n 3, 1) := by decide +kernel
theorem dX8_voices_18 : decode cX8_voices 18 = .ok (.invokevirtual 112, 3) := by decide +kernel
theorem dX8_voices_21 : decode cX8_voices 21 = .ok (.ifCond .eq 9, 3) := by decide +kernel
theorem dX8_voices_24 : decode cX8_voices 24 = .ok (.iconst 1, 1) := by decide +kernel
theorem dX8_voices_25 : decode cX8_voices 25 = .ok (.iload_n 3, 1) := by decide +kernel
theorem dX8_voices_26 : decode cX8_voices 26 = .ok (.ishl, 1) := by decide +kernel
theorem dX8_voices_27 : decode cX8_voices 27 = .ok (.goto 4, 3) := by decide +kernel
theorem dX8_voices_30 : decode cX8_voices 30 = .ok (.iconst 0, 1) := by decide +kernel
theorem dX8_voices_31 : decode cX8_voices 31 = .ok (.ior, 1) := by decide +kernel
theorem dX8_voices_32 : decode cX8_voices 32 = .ok (.istore_n 2, 1) := by decide +kernel
theorem dX8_voices_33 : decode cX8_voices 33 = .ok (.iinc 3 1, 3) := by decide +kernel
theorem dX8_voices_36 : decode cX8_voices 36 = .ok (.goto (-32), 3) := by decide +kernel
theorem dX8_voices_39 : decode cX8_voices 39 = .ok (.iload_n 2, 1) := by decide +kernel
theorem dX8_voices_40 : decode cX8_voices 40 = .ok (.ireturn, 1) := by decide +kernel
theorem dX8_saysYes_0 : decode cX8_saysYes 0 = .ok (.iconst 0, 1) := by decide +kernel
theorem dX8_saysYes_1 : decode cX8_saysYes 1 = .ok (.istore_n 3, 1) := by decide +kernel
theorem dX8_saysYes_2 : decode cX8_saysYes 2 = .ok (.iconst 0, 1) := by decide +kernel
theorem dX8_saysYes_3 : decode cX8_saysYes 3 = .ok (.istore 4, 2) := by decide +kernel
theorem dX8_saysYes_5 : decode cX8_saysYes 5 = .ok (.iload 4, 2) := by decide +kernel
theorem dX8_saysYes_7 : decode cX8_saysYes 7 = .ok (.aload_n 0, 1) := by decide +kernel
theorem dX8_saysYes_8 : decode cX8_saysYes 8 = .ok (.getfield 13, 3) := by decide +kernel
theorem dX8_saysYes_11 : decode cX8_saysYes 11 = .ok (.iconst 0, 1) := by decide +kernel
theorem dX8_saysYes_12 : decode cX8_saysYes 12 = .ok (.iaload, 1) := by decide +kernel
theorem dX8_saysYes_13 : decode cX8_saysYes 13 = .ok (.if_icmp .ge 43, 3) := by decide +kernel
theorem dX8_saysYes_16 : decode cX8_saysYes 16 = .ok (.iload_n 3, 1) := by decide +kernel
theorem dX8_saysYes_17 : decode cX8_saysYes 17 = .ok (.aload_n 0, 1) := by decide +kernel
theorem dX8_saysYes_18 : decode cX8_saysYes 18 = .ok (.getfield 22, 3) := by decide +kernel
theorem dX8_saysYes_21 : decode cX8_saysYes 21 = .ok (.iload 4, 2) := by decide +kernel
theorem dX8_saysYes_23 : decode cX8_saysYes 23 = .ok (.iaload, 1) := by decide +kernel
theorem dX8_saysYes_24 : decode cX8_saysYes 24 = .ok (.iload_n 2, 1) := by decide +kernel
theorem dX8_saysYes_25 : decode cX8_saysYes 25 = .ok (.ishr, 1) := by decide +kernel
theorem dX8_saysYes_26 : decode cX8_saysYes 26 = .ok (.aload_n 1, 1) := by decide +kernel
theorem dX8_saysYes_27 : decode cX8_saysYes 27 = .ok (.bipush 15, 2) := by decide +kernel
theorem dX8_saysYes_29 : decode cX8_saysYes 29 = .ok (.iaload, 1) := by decide +kernel
theorem dX8_saysYes_30 : decode cX8_saysYes 30 = .ok (.iload 4, 2) := by decide +kernel
theorem dX8_saysYes_32 : decode cX8_saysYes 32 = .ok (.ishr, 1) := by decide +kernel
theorem dX8_saysYes_33 : decode cX8_saysYes 33 = .ok (.ixor, 1) := by decide +kernel
theorem dX8_saysYes_34 : decode cX8_saysYes 34 = .ok (.iconst 1, 1) := by decide +kernel
theorem dX8_saysYes_35 : decode cX8_saysYes 35 = .ok (.iand, 1) := by decide +kernel
theorem dX8_saysYes_36 : decode cX8_saysYes 36 = .ok (.iconst 1, 1) := by decide +kernel
theorem dX8_saysYes_37 : decode cX8_saysYes 37 = .ok (.if_icmp .ne 10, 3) := by decide +kernel
theorem dX8_saysYes_40 : decode cX8_saysYes 40 = .ok (.iconst 1, 1) := by decide +kernel
theorem dX8_saysYes_41 : decode cX8_saysYes 41 = .ok (.iload 4, 2) := by decide +kernel
theorem dX8_saysYes_43 : decode cX8_saysYes 43 = .ok (.ishl, 1) := by decide +kernel
theorem dX8_saysYes_44 : decode cX8_saysYes 44 = .ok (.goto 4, 3) := by decide +kernel
theorem dX8_saysYes_47 : decode cX8_saysYes 47 = .ok (.iconst 0, 1) := by decide +kernel
theorem dX8_saysYes_48 : decode cX8_saysYes 48 = .ok (.ior, 1) := by decide +kernel
theorem dX8_saysYes_49 : decode cX8_saysYes 49 = .ok (.istore_n 3, 1) := by decide +kernel
theorem dX8_saysYes_50 : decode cX8_saysYes 50 = .ok (.iinc 4 1, 3) := by decide +kernel
theorem dX8_saysYes_53 : decode cX8_saysYes 53 = .ok (.goto (-48), 3) := by decide +kernel
theorem dX8_saysYes_56 : decode cX8_saysYes 56 = .ok (.iload_n 3, 1) := by decide +kernel
theorem dX8_saysYes_57 : decode cX8_saysYes 57 = .ok (.ireturn, 1) := by decide +kernel
theorem dX8_votesOf_0 : decode cX8_votesOf 0 = .ok (.iconst 0, 1) := by decide +kernel
theorem dX8_votesOf_1 : decode cX8_votesOf 1 = .ok (.istore_n 2, 1) := by decide +kernel
theorem dX8_votesOf_2 : decode cX8_votesOf 2 = .ok (.iconst 0, 1) := by decide +kernel
theorem dX8_votesOf_3 : decode cX8_votesOf 3 = .ok (.istore_n 3, 1) := by decide +kernel
theorem dX8_votesOf_4 : decode cX8_votesOf 4 = .ok (.iload_n 3, 1) := by decide +kernel
theorem dX8_votesOf_5 : decode cX8_votesOf 5 = .ok (.aload_n 0, 1) := by decide +kernel
theorem dX8_votesOf_6 : decode cX8_votesOf 6 = .ok (.getfield 13, 3) := by decide +kernel
theorem dX8_votesOf_9 : decode cX8_votesOf 9 = .ok (.iconst 0, 1) := by decide +kernel
theorem dX8_votesOf_10 : decode cX8_votesOf 10 = .ok (.iaload, 1) := by decide +kernel
theorem dX8_votesOf_11 : decode cX8_votesOf 11 = .ok (.if_icmp .ge 31, 3) := by decide +kernel
theorem dX8_votesOf_14 : decode cX8_votesOf 14 = .ok (.iload_n 2, 1) := by decide +kernel
theorem dX8_votesOf_15 : decode cX8_votesOf 15 = .ok (.iload_n 1, 1) := by decide +kernel
theorem dX8_votesOf_16 : decode cX8_votesOf 16 = .ok (.iload_n 3, 1) := by decide +kernel
theorem dX8_votesOf_17 : decode cX8_votesOf 17 = .ok (.ishr, 1) := by decide +kernel
theorem dX8_votesOf_18 : decode cX8_votesOf 18 = .ok (.iconst 1, 1) := by decide +kernel
theorem dX8_votesOf_19 : decode cX8_votesOf 19 = .ok (.iand, 1) := by decide +kernel
theorem dX8_votesOf_20 : decode cX8_votesOf 20 = .ok (.iconst 1, 1) := by decide +kernel
theorem dX8_votesOf_21 : decode cX8_votesOf 21 = .ok (.if_icmp .ne 12, 3) := by decide +kernel
theorem dX8_votesOf_24 : decode cX8_votesOf 24 = .ok (.aload_n 0, 1) := by decide +kernel
theorem dX8_votesOf_25 : decode cX8_votesOf 25 = .ok (.getfield 19, 3) := by decide +kernel
theorem dX8_votesOf_28 : decode cX8_votesOf 28 = .ok (.iload_n 3, 1) := by decide +kernel
theorem dX8_votesOf_29 : decode cX8_votesOf 29 = .ok (.iaload, 1) := by decide +kernel
theorem dX8_votesOf_30 : decode cX8_votesOf 30 = .ok (.goto 4, 3) := by decide +kernel
theorem dX8_votesOf_33 : decode cX8_votesOf 33 = .ok (.iconst 0, 1) := by decide +kernel
theorem dX8_votesOf_34 : decode cX8_votesOf 34 = .ok (.iadd, 1) := by decide +kernel
theorem dX8_votesOf_35 : decode cX8_votesOf 35 = .ok (.istore_n 2, 1) := by decide +kernel
theorem dX8_votesOf_36 : decode cX8_votesOf 36 = .ok (.iinc 3 1, 3) := by decide +kernel
theorem dX8_votesOf_39 : decode cX8_votesOf 39 = .ok (.goto (-35), 3) := by decide +kernel
theorem dX8_votesOf_42 : decode cX8_votesOf 42 = .ok (.iload_n 2, 1) := by decide +kernel
theorem dX8_votesOf_43 : decode cX8_votesOf 43 = .ok (.ireturn, 1) := by decide +kernel
set_option maxRecDepth 20000 in
theorem ggX8_passesBy_X8_votesOf : GoodIn wsX8_passesBy wsX8_votesOf := goodIn_r _ [5, 6, 7, 8, 9, 10, 11, 12, 13, 14, 15, 16, 17, 18, 19, 20, 21, 22, 23, 24, 25, 26, 27, 28, 29, 30, 31] (by decide +kernel) (by decide +kernel)
set_option maxRecDepth 20000 in
theorem gX8_passesBy_X8_votesOf : GoodIn wsX8_passesBy (wsV RX8 116 RX8 yX8_votesOf wsX8_votesOf) := goodIn_app (goodIn_of _ (by decide +kernel)) ggX8_passesBy_X8_votesOf
theorem dX8_passesBy_0 : decode cX8_passesBy 0 = .ok (.aload_n 0, 1) := by decide +kernel
theorem dX8_passesBy_1 : decode cX8_passesBy 1 = .ok (.iload_n 1, 1) := by decide +kernel
theorem dX8_passesBy_2 : decode cX8_passesBy 2 = .ok (.iload_n 2, 1) := by decide +kernel
theorem dX8_passesBy_3 : decode cX8_passesBy 3 = .ok (.iand, 1) := by decide +kernel
theorem dX8_passesBy_4 : decode cX8_passesBy 4 = .ok (.invokevirtual 116, 3) := by decide +kernel
theorem dX8_passesBy_7 : decode cX8_passesBy 7 = .ok (.aload_n 0, 1) := by decide +kernel
theorem dX8_passesBy_8 : decode cX8_passesBy 8 = .ok (.iload_n 1, 1) := by decide +kernel
theorem dX8_passesBy_9 : decode cX8_passesBy 9 = .ok (.iload_n 2, 1) := by decide +kernel
theorem dX8_passesBy_10 : decode cX8_passesBy 10 = .ok (.iconst (-1), 1) := by decide +kernel
theorem dX8_passesBy_11 : decode cX8_passesBy 11 = .ok (.ixor, 1) := by decide +kernel
theorem dX8_passesBy_12 : decode cX8_passesBy 12 = .ok (.iand, 1) := by decide +kernel
theorem dX8_passesBy_13 : decode cX8_passesBy 13 = .ok (.invokevirtual 116, 3) := by decide +kernel
theorem dX8_passesBy_16 : decode cX8_passesBy 16 = .ok (.if_icmp .le 7, 3) := by decide +kernel
theorem dX8_passesBy_19 : decode cX8_passesBy 19 = .ok (.iconst 1, 1) := by decide +kernel
theorem dX8_passesBy_20 : decode cX8_passesBy 20 = .ok (.goto 4, 3) := by decide +kernel
theorem dX8_passesBy_23 : decode cX8_passesBy 23 = .ok (.iconst 0, 1) := by decide +kernel
theorem dX8_passesBy_24 : decode cX8_passesBy 24 = .ok (.ireturn, 1) := by decide +kernel
set_option maxRecDepth 20000 in
theorem ggX8_passes_X8_voices : GoodIn wsX8_passes wsX8_voices := goodIn_r _ [5, 6, 7, 8, 9, 4, 10, 11, 26, 27, 28, 29, 30, 31, 32, 33, 34, 35, 36, 37, 38, 39, 40, 41, 42, 43, 44, 45, 46, 47, 48, 49] (by decide +kernel) (by decide +kernel)
set_option maxRecDepth 20000 in
theorem gX8_passes_X8_voices : GoodIn wsX8_passes (wsV RX8 119 RX8 yX8_voices wsX8_voices) := goodIn_app (goodIn_of _ (by decide +kernel)) ggX8_passes_X8_voices
set_option maxRecDepth 20000 in
theorem ggX8_passes_X8_saysYes : GoodIn wsX8_passes wsX8_saysYes := goodIn_r _ [15, 6, 16, 26, 27, 28, 29, 30, 31, 32, 33, 34, 35, 36, 37, 38, 39, 40, 41, 42, 43, 44, 45, 46, 47, 48, 49] (by decide +kernel) (by decide +kernel)
set_option maxRecDepth 20000 in
theorem gX8_passes_X8_saysYes : GoodIn wsX8_passes (wsV RX8 123 RX8 yX8_saysYes wsX8_saysYes) := goodIn_app (goodIn_of _ (by decide +kernel)) ggX8_passes_X8_saysYes
set_option maxRecDepth 20000 in
theorem ggX8_passes_X8_passesBy : GoodIn wsX8_passes wsX8_passesBy := goodIn_r _ [20, 21, 22, 23, 4, 24, 6, 25, 26, 27, 28, 29, 30, 31, 32, 33, 34, 35, 36, 37, 38, 39, 40, 41, 42, 43, 44, 45, 46, 47, 48, 49] (by decide +kernel) (by decide +kernel)
set_option maxRecDepth 20000 in
theorem gX8_passes_X8_passesBy : GoodIn wsX8_passes (wsV RX8 127 RX8 yX8_passesBy wsX8_passesBy) := goodIn_app (goodIn_of _ (by decide +kernel)) ggX8_passes_X8_passesBy
theorem dX8_passes_0 : decode cX8_passes 0 = .ok (.aload_n 0, 1) := by decide +kernel
theorem dX8_passes_1 : decode cX8_passes 1 = .ok (.aload_n 0, 1) := by decide +kernel
theorem dX8_passes_2 : decode cX8_passes 2 = .ok (.aload_n 1, 1) := by decide +kernel
theorem dX8_passes_3 : decode cX8_passes 3 = .ok (.invokevirtual 119, 3) := by decide +kernel
theorem dX8_passes_6 : decode cX8_passes 6 = .ok (.aload_n 0, 1) := by decide +kernel
theorem dX8_passes_7 : decode cX8_passes 7 = .ok (.aload_n 1, 1) := by decide +kernel
theorem dX8_passes_8 : decode cX8_passes 8 = .ok (.iload_n 2, 1) := by decide +kernel
theorem dX8_passes_9 : decode cX8_passes 9 = .ok (.invokevirtual 123, 3) := by decide +kernel
theorem dX8_passes_12 : decode cX8_passes 12 = .ok (.invokevirtual 127, 3) := by decide +kernel
theorem dX8_passes_15 : decode cX8_passes 15 = .ok (.ireturn, 1) := by decide +kernel
set_option maxRecDepth 20000 in
theorem ggX8_thing_X8_isThing : GoodIn wsX8_thing wsX8_isThing := goodIn_r _ [10, 11, 12, 13, 9, 14, 19, 20, 21, 22, 23, 24, 25, 26, 27, 28, 29, 30, 31, 32, 33, 34, 35, 36, 37, 38, 39, 40, 41, 42] (by decide +kernel) (by decide +kernel)
set_option maxRecDepth 20000 in
theorem gX8_thing_X8_isThing : GoodIn wsX8_thing (wsV RX8 131 RX8 yX8_isThing wsX8_isThing) := goodIn_app (goodIn_of _ (by decide +kernel)) ggX8_thing_X8_isThing
set_option maxRecDepth 20000 in
theorem ggX8_thing_X8_in : GoodIn wsX8_thing wsX8_in := goodIn_r _ [14] (by decide +kernel) (by decide +kernel)
set_option maxRecDepth 20000 in
theorem gX8_thing_X8_in : GoodIn wsX8_thing (va_wsS RX8 54 yX8_in wsX8_in) := goodIn_app (goodIn_of _ (by decide +kernel)) ggX8_thing_X8_in
set_option maxRecDepth 20000 in
theorem ggX8_thing_X8_speaks : GoodIn wsX8_thing wsX8_speaks := goodIn_r _ [18, 2, 19, 20, 21, 22, 23, 24, 25, 26, 27, 28, 29, 30, 31, 32, 33, 34, 35, 36, 37, 38, 39, 40, 41, 42] (by decide +kernel) (by decide +kernel)
set_option maxRecDepth 20000 in
theorem gX8_thing_X8_speaks : GoodIn wsX8_thing (wsV RX8 112 RX8 yX8_speaks wsX8_speaks) := goodIn_app (goodIn_of _ (by decide +kernel)) ggX8_thing_X8_speaks
theorem dX8_thing_0 : decode cX8_thing 0 = .ok (.aload_n 0, 1) := by decide +kernel
theorem dX8_thing_1 : decode cX8_thing 1 = .ok (.iconst 0, 1) := by decide +kernel
theorem dX8_thing_2 : decode cX8_thing 2 = .ok (.putfield 50, 3) := by decide +kernel
theorem dX8_thing_5 : decode cX8_thing 5 = .ok (.aload_n 0, 1) := by decide +kernel
theorem dX8_thing_6 : decode cX8_thing 6 = .ok (.iload_n 1, 1) := by decide +kernel
theorem dX8_thing_7 : decode cX8_thing 7 = .ok (.invokevirtual 131, 3) := by decide +kernel
theorem dX8_thing_10 : decode cX8_thing 10 = .ok (.ifCond .eq 13, 3) := by decide +kernel
theorem dX8_thing_13 : decode cX8_thing 13 = .ok (.iload_n 2, 1) := by decide +kernel
theorem dX8_thing_14 : decode cX8_thing 14 = .ok (.iconst 0, 1) := by decide +kernel
theorem dX8_thing_15 : decode cX8_thing 15 = .ok (.bipush 7, 2) := by decide +kernel
theorem dX8_thing_17 : decode cX8_thing 17 = .ok (.invokestatic 54, 3) := by decide +kernel
theorem dX8_thing_20 : decode cX8_thing 20 = .ok (.ifCond .ne 5, 3) := by decide +kernel
theorem dX8_thing_23 : decode cX8_thing 23 = .ok (.iconst (-1), 1) := by decide +kernel
theorem dX8_thing_24 : decode cX8_thing 24 = .ok (.ireturn, 1) := by decide +kernel
theorem dX8_thing_25 : decode cX8_thing 25 = .ok (.iload_n 2, 1) := by decide +kernel
theorem dX8_thing_26 : decode cX8_thing 26 = .ok (.iconst 4, 1) := by decide +kernel
theorem dX8_thing_27 : decode cX8_thing 27 = .ok (.if_icmp .ge 53, 3) := by decide +kernel
theorem dX8_thing_30 : decode cX8_thing 30 = .ok (.iload_n 2, 1) := by decide +kernel
theorem dX8_thing_31 : decode cX8_thing 31 = .ok (.ifCond .ne 12, 3) := by decide +kernel
theorem dX8_thing_34 : decode cX8_thing 34 = .ok (.aload_n 0, 1) := by decide +kernel
theorem dX8_thing_35 : decode cX8_thing 35 = .ok (.getfield 16, 3) := by decide +kernel
theorem dX8_thing_38 : decode cX8_thing 38 = .ok (.iload_n 1, 1) := by decide +kernel
theorem dX8_thing_39 : decode cX8_thing 39 = .ok (.iaload, 1) := by decide +kernel
theorem dX8_thing_40 : decode cX8_thing 40 = .ok (.goto 39, 3) := by decide +kernel
theorem dX8_thing_43 : decode cX8_thing 43 = .ok (.iload_n 2, 1) := by decide +kernel
theorem dX8_thing_44 : decode cX8_thing 44 = .ok (.iconst 1, 1) := by decide +kernel
theorem dX8_thing_45 : decode cX8_thing 45 = .ok (.if_icmp .ne 12, 3) := by decide +kernel
theorem dX8_thing_48 : decode cX8_thing 48 = .ok (.aload_n 0, 1) := by decide +kernel
theorem dX8_thing_49 : decode cX8_thing 49 = .ok (.getfield 19, 3) := by decide +kernel
theorem dX8_thing_52 : decode cX8_thing 52 = .ok (.iload_n 1, 1) := by decide +kernel
theorem dX8_thing_53 : decode cX8_thing 53 = .ok (.iaload, 1) := by decide +kernel
theorem dX8_thing_54 : decode cX8_thing 54 = .ok (.goto 25, 3) := by decide +kernel
theorem dX8_thing_57 : decode cX8_thing 57 = .ok (.iload_n 2, 1) := by decide +kernel
theorem dX8_thing_58 : decode cX8_thing 58 = .ok (.iconst 2, 1) := by decide +kernel
theorem dX8_thing_59 : decode cX8_thing 59 = .ok (.if_icmp .ne 12, 3) := by decide +kernel
theorem dX8_thing_62 : decode cX8_thing 62 = .ok (.aload_n 0, 1) := by decide +kernel
theorem dX8_thing_63 : decode cX8_thing 63 = .ok (.getfield 22, 3) := by decide +kernel
theorem dX8_thing_66 : decode cX8_thing 66 = .ok (.iload_n 1, 1) := by decide +kernel
theorem dX8_thing_67 : decode cX8_thing 67 = .ok (.iaload, 1) := by decide +kernel
theorem dX8_thing_68 : decode cX8_thing 68 = .ok (.goto 11, 3) := by decide +kernel
theorem dX8_thing_71 : decode cX8_thing 71 = .ok (.aload_n 0, 1) := by decide +kernel
theorem dX8_thing_72 : decode cX8_thing 72 = .ok (.getfield 28, 3) := by decide +kernel
theorem dX8_thing_75 : decode cX8_thing 75 = .ok (.iconst 0, 1) := by decide +kernel
theorem dX8_thing_76 : decode cX8_thing 76 = .ok (.iload_n 1, 1) := by decide +kernel
theorem dX8_thing_77 : decode cX8_thing 77 = .ok (.iadd, 1) := by decide +kernel
theorem dX8_thing_78 : decode cX8_thing 78 = .ok (.iaload, 1) := by decide +kernel
theorem dX8_thing_79 : decode cX8_thing 79 = .ok (.ireturn, 1) := by decide +kernel
theorem dX8_thing_80 : decode cX8_thing 80 = .ok (.iload_n 2, 1) := by decide +kernel
theorem dX8_thing_81 : decode cX8_thing 81 = .ok (.iconst 4, 1) := by decide +kernel
theorem dX8_thing_82 : decode cX8_thing 82 = .ok (.if_icmp .ne 17, 3) := by decide +kernel
theorem dX8_thing_85 : decode cX8_thing 85 = .ok (.aload_n 0, 1) := by decide +kernel
theorem dX8_thing_86 : decode cX8_thing 86 = .ok (.getfield 28, 3) := by decide +kernel
theorem dX8_thing_89 : decode cX8_thing 89 = .ok (.bipush 14, 2) := by decide +kernel
theorem dX8_thing_91 : decode cX8_thing 91 = .ok (.iaload, 1) := by decide +kernel
theorem dX8_thing_92 : decode cX8_thing 92 = .ok (.iload_n 1, 1) := by decide +kernel
theorem dX8_thing_93 : decode cX8_thing 93 = .ok (.ishr, 1) := by decide +kernel
theorem dX8_thing_94 : decode cX8_thing 94 = .ok (.iconst 1, 1) := by decide +kernel
theorem dX8_thing_95 : decode cX8_thing 95 = .ok (.iand, 1) := by decide +kernel
theorem dX8_thing_96 : decode cX8_thing 96 = .ok (.goto 57, 3) := by decide +kernel
theorem dX8_thing_99 : decode cX8_thing 99 = .ok (.iload_n 2, 1) := by decide +kernel
theorem dX8_thing_100 : decode cX8_thing 100 = .ok (.iconst 5, 1) := by decide +kernel
theorem dX8_thing_101 : decode cX8_thing 101 = .ok (.if_icmp .ne 17, 3) := by decide +kernel
theorem dX8_thing_104 : decode cX8_thing 104 = .ok (.aload_n 0, 1) := by decide +kernel
theorem dX8_thing_105 : decode cX8_thing 105 = .ok (.getfield 28, 3) := by decide +kernel
theorem dX8_thing_108 : decode cX8_thing 108 = .ok (.bipush 15, 2) := by decide +kernel
theorem dX8_thing_110 : decode cX8_thing 110 = .ok (.iaload, 1) := by decide +kernel
theorem dX8_thing_111 : decode cX8_thing 111 = .ok (.iload_n 1, 1) := by decide +kernel
theorem dX8_thing_112 : decode cX8_thing 112 = .ok (.ishr, 1) := by decide +kernel
theorem dX8_thing_113 : decode cX8_thing 113 = .ok (.iconst 1, 1) := by decide +kernel
theorem dX8_thing_114 : decode cX8_thing 114 = .ok (.iand, 1) := by decide +kernel
theorem dX8_thing_115 : decode cX8_thing 115 = .ok (.goto 38, 3) := by decide +kernel
theorem dX8_thing_118 : decode cX8_thing 118 = .ok (.iload_n 2, 1) := by decide +kernel
theorem dX8_thing_119 : decode cX8_thing 119 = .ok (.bipush 6, 2) := by decide +kernel
theorem dX8_thing_121 : decode cX8_thing 121 = .ok (.if_icmp .ne 15, 3) := by decide +kernel
theorem dX8_thing_124 : decode cX8_thing 124 = .ok (.aload_n 0, 1) := by decide +kernel
theorem dX8_thing_125 : decode cX8_thing 125 = .ok (.getfield 28, 3) := by decide +kernel
theorem dX8_thing_128 : decode cX8_thing 128 = .ok (.bipush 7, 2) := by decide +kernel
theorem dX8_thing_130 : decode cX8_thing 130 = .ok (.iload_n 1, 1) := by decide +kernel
theorem dX8_thing_131 : decode cX8_thing 131 = .ok (.iadd, 1) := by decide +kernel
theorem dX8_thing_132 : decode cX8_thing 132 = .ok (.iaload, 1) := by decide +kernel
theorem dX8_thing_133 : decode cX8_thing 133 = .ok (.goto 20, 3) := by decide +kernel
theorem dX8_thing_136 : decode cX8_thing 136 = .ok (.aload_n 0, 1) := by decide +kernel
theorem dX8_thing_137 : decode cX8_thing 137 = .ok (.aload_n 0, 1) := by decide +kernel
theorem dX8_thing_138 : decode cX8_thing 138 = .ok (.getfield 28, 3) := by decide +kernel
theorem dX8_thing_141 : decode cX8_thing 141 = .ok (.iload_n 1, 1) := by decide +kernel
theorem dX8_thing_142 : decode cX8_thing 142 = .ok (.invokevirtual 112, 3) := by decide +kernel
theorem dX8_thing_145 : decode cX8_thing 145 = .ok (.ifCond .eq 7, 3) := by decide +kernel
theorem dX8_thing_148 : decode cX8_thing 148 = .ok (.iconst 1, 1) := by decide +kernel
theorem dX8_thing_149 : decode cX8_thing 149 = .ok (.goto 4, 3) := by decide +kernel
theorem dX8_thing_152 : decode cX8_thing 152 = .ok (.iconst 0, 1) := by decide +kernel
theorem dX8_thing_153 : decode cX8_thing 153 = .ok (.ireturn, 1) := by decide +kernel
theorem dX8_heldBy_0 : decode cX8_heldBy 0 = .ok (.iconst 0, 1) := by decide +kernel
theorem dX8_heldBy_1 : decode cX8_heldBy 1 = .ok (.istore_n 2, 1) := by decide +kernel
theorem dX8_heldBy_2 : decode cX8_heldBy 2 = .ok (.iconst 0, 1) := by decide +kernel
theorem dX8_heldBy_3 : decode cX8_heldBy 3 = .ok (.istore_n 3, 1) := by decide +kernel
theorem dX8_heldBy_4 : decode cX8_heldBy 4 = .ok (.iload_n 3, 1) := by decide +kernel
theorem dX8_heldBy_5 : decode cX8_heldBy 5 = .ok (.aload_n 0, 1) := by decide +kernel
theorem dX8_heldBy_6 : decode cX8_heldBy 6 = .ok (.getfield 13, 3) := by decide +kernel
theorem dX8_heldBy_9 : decode cX8_heldBy 9 = .ok (.iconst 0, 1) := by decide +kernel
theorem dX8_heldBy_10 : decode cX8_heldBy 10 = .ok (.iaload, 1) := by decide +kernel
theorem dX8_heldBy_11 : decode cX8_heldBy 11 = .ok (.if_icmp .ge 31, 3) := by decide +kernel
theorem dX8_heldBy_14 : decode cX8_heldBy 14 = .ok (.iload_n 2, 1) := by decide +kernel
theorem dX8_heldBy_15 : decode cX8_heldBy 15 = .ok (.aload_n 0, 1) := by decide +kernel
theorem dX8_heldBy_16 : decode cX8_heldBy 16 = .ok (.getfield 28, 3) := by decide +kernel
theorem dX8_heldBy_19 : decode cX8_heldBy 19 = .ok (.iconst 0, 1) := by decide +kernel
theorem dX8_heldBy_20 : decode cX8_heldBy 20 = .ok (.iload_n 3, 1) := by decide +kernel
theorem dX8_heldBy_21 : decode cX8_heldBy 21 = .ok (.iadd, 1) := by decide +kernel
theorem dX8_heldBy_22 : decode cX8_heldBy 22 = .ok (.iaload, 1) := by decide +kernel
theorem dX8_heldBy_23 : decode cX8_heldBy 23 = .ok (.iload_n 1, 1) := by decide +kernel
theorem dX8_heldBy_24 : decode cX8_heldBy 24 = .ok (.if_icmp .ne 9, 3) := by decide +kernel
theorem dX8_heldBy_27 : decode cX8_heldBy 27 = .ok (.iconst 1, 1) := by decide +kernel
theorem dX8_heldBy_28 : decode cX8_heldBy 28 = .ok (.iload_n 3, 1) := by decide +kernel
theorem dX8_heldBy_29 : decode cX8_heldBy 29 = .ok (.ishl, 1) := by decide +kernel
theorem dX8_heldBy_30 : decode cX8_heldBy 30 = .ok (.goto 4, 3) := by decide +kernel
theorem dX8_heldBy_33 : decode cX8_heldBy 33 = .ok (.iconst 0, 1) := by decide +kernel
theorem dX8_heldBy_34 : decode cX8_heldBy 34 = .ok (.ior, 1) := by decide +kernel
theorem dX8_heldBy_35 : decode cX8_heldBy 35 = .ok (.istore_n 2, 1) := by decide +kernel
theorem dX8_heldBy_36 : decode cX8_heldBy 36 = .ok (.iinc 3 1, 3) := by decide +kernel
theorem dX8_heldBy_39 : decode cX8_heldBy 39 = .ok (.goto (-35), 3) := by decide +kernel
theorem dX8_heldBy_42 : decode cX8_heldBy 42 = .ok (.iload_n 2, 1) := by decide +kernel
theorem dX8_heldBy_43 : decode cX8_heldBy 43 = .ok (.ireturn, 1) := by decide +kernel
set_option maxRecDepth 20000 in
theorem ggX8_officer_X8_isOfficer : GoodIn wsX8_officer wsX8_isOfficer := goodIn_r _ [7, 8, 9, 10, 6, 11, 30, 31, 32, 33, 34, 35, 36, 37, 38, 39, 40, 41, 42, 43, 44, 45, 46, 47, 48, 49, 50, 51, 52, 53] (by decide +kernel) (by decide +kernel)
set_option maxRecDepth 20000 in
theorem gX8_officer_X8_isOfficer : GoodIn wsX8_officer (wsV RX8 135 RX8 yX8_isOfficer wsX8_isOfficer) := goodIn_app (goodIn_of _ (by decide +kernel)) ggX8_officer_X8_isOfficer
set_option maxRecDepth 20000 in
theorem ggX8_officer_X8_in : GoodIn wsX8_officer wsX8_in := goodIn_r _ [11] (by decide +kernel) (by decide +kernel)
set_option maxRecDepth 20000 in
theorem gX8_officer_X8_in : GoodIn wsX8_officer (va_wsS RX8 54 yX8_in wsX8_in) := goodIn_app (goodIn_of _ (by decide +kernel)) ggX8_officer_X8_in
set_option maxRecDepth 20000 in
theorem ggX8_officer_X8_heldBy : GoodIn wsX8_officer wsX8_heldBy := goodIn_r _ [15, 8, 2, 30, 31, 32, 33, 34, 35, 36, 37, 38, 39, 40, 41, 42, 43, 44, 45, 46, 47, 48, 49, 50, 51, 52, 53] (by decide +kernel) (by decide +kernel)
set_option maxRecDepth 20000 in
theorem gX8_officer_X8_heldBy : GoodIn wsX8_officer (wsV RX8 138 RX8 yX8_heldBy wsX8_heldBy) := goodIn_app (goodIn_of _ (by decide +kernel)) ggX8_officer_X8_heldBy
set_option maxRecDepth 20000 in
theorem ggX8_officer_X8_voices : GoodIn wsX8_officer wsX8_voices := goodIn_r _ [19, 8, 20, 21, 22, 6, 23, 24, 30, 31, 32, 33, 34, 35, 36, 37, 38, 39, 40, 41, 42, 43, 44, 45, 46, 47, 48, 49, 50, 51, 52, 53] (by decide +kernel) (by decide +kernel)
set_option maxRecDepth 20000 in
theorem gX8_officer_X8_voices : GoodIn wsX8_officer (wsV RX8 119 RX8 yX8_voices wsX8_voices) := goodIn_app (goodIn_of _ (by decide +kernel)) ggX8_officer_X8_voices
set_option maxRecDepth 20000 in
theorem ggX8_officer_X8_votesOf : GoodIn wsX8_officer wsX8_votesOf := goodIn_r _ [28, 8, 29, 30, 31, 32, 33, 34, 35, 36, 37, 38, 39, 40, 41, 42, 43, 44, 45, 46, 47, 48, 49, 50, 51, 52, 53] (by decide +kernel) (by decide +kernel)
set_option maxRecDepth 20000 in
theorem gX8_officer_X8_votesOf : GoodIn wsX8_officer (wsV RX8 116 RX8 yX8_votesOf wsX8_votesOf) := goodIn_app (goodIn_of _ (by decide +kernel)) ggX8_officer_X8_votesOf
theorem dX8_officer_0 : decode cX8_officer 0 = .ok (.aload_n 0, 1) := by decide +kernel
theorem dX8_officer_1 : decode cX8_officer 1 = .ok (.iconst 0, 1) := by decide +kernel
theorem dX8_officer_2 : decode cX8_officer 2 = .ok (.putfield 50, 3) := by decide +kernel
theorem dX8_officer_5 : decode cX8_officer 5 = .ok (.aload_n 0, 1) := by decide +kernel
theorem dX8_officer_6 : decode cX8_officer 6 = .ok (.iload_n 1, 1) := by decide +kernel
theorem dX8_officer_7 : decode cX8_officer 7 = .ok (.invokevirtual 135, 3) := by decide +kernel
theorem dX8_officer_10 : decode cX8_officer 10 = .ok (.ifCond .eq 12, 3) := by decide +kernel
theorem dX8_officer_13 : decode cX8_officer 13 = .ok (.iload_n 2, 1) := by decide +kernel
theorem dX8_officer_14 : decode cX8_officer 14 = .ok (.iconst 0, 1) := by decide +kernel
theorem dX8_officer_15 : decode cX8_officer 15 = .ok (.iconst 2, 1) := by decide +kernel
theorem dX8_officer_16 : decode cX8_officer 16 = .ok (.invokestatic 54, 3) := by decide +kernel
theorem dX8_officer_19 : decode cX8_officer 19 = .ok (.ifCond .ne 5, 3) := by decide +kernel
theorem dX8_officer_22 : decode cX8_officer 22 = .ok (.iconst (-1), 1) := by decide +kernel
theorem dX8_officer_23 : decode cX8_officer 23 = .ok (.ireturn, 1) := by decide +kernel
theorem dX8_officer_24 : decode cX8_officer 24 = .ok (.iload_n 2, 1) := by decide +kernel
theorem dX8_officer_25 : decode cX8_officer 25 = .ok (.ifCond .ne 17, 3) := by decide +kernel
theorem dX8_officer_28 : decode cX8_officer 28 = .ok (.aload_n 0, 1) := by decide +kernel
theorem dX8_officer_29 : decode cX8_officer 29 = .ok (.getfield 28, 3) := by decide +kernel
theorem dX8_officer_32 : decode cX8_officer 32 = .ok (.bipush 16, 2) := by decide +kernel
theorem dX8_officer_34 : decode cX8_officer 34 = .ok (.iaload, 1) := by decide +kernel
theorem dX8_officer_35 : decode cX8_officer 35 = .ok (.iload_n 1, 1) := by decide +kernel
theorem dX8_officer_36 : decode cX8_officer 36 = .ok (.ishr, 1) := by decide +kernel
theorem dX8_officer_37 : decode cX8_officer 37 = .ok (.iconst 1, 1) := by decide +kernel
theorem dX8_officer_38 : decode cX8_officer 38 = .ok (.iand, 1) := by decide +kernel
theorem dX8_officer_39 : decode cX8_officer 39 = .ok (.goto 34, 3) := by decide +kernel
theorem dX8_officer_42 : decode cX8_officer 42 = .ok (.iload_n 2, 1) := by decide +kernel
theorem dX8_officer_43 : decode cX8_officer 43 = .ok (.iconst 1, 1) := by decide +kernel
theorem dX8_officer_44 : decode cX8_officer 44 = .ok (.if_icmp .ne 11, 3) := by decide +kernel
theorem dX8_officer_47 : decode cX8_officer 47 = .ok (.aload_n 0, 1) := by decide +kernel
theorem dX8_officer_48 : decode cX8_officer 48 = .ok (.iload_n 1, 1) := by decide +kernel
theorem dX8_officer_49 : decode cX8_officer 49 = .ok (.invokevirtual 138, 3) := by decide +kernel
theorem dX8_officer_52 : decode cX8_officer 52 = .ok (.goto 21, 3) := by decide +kernel
theorem dX8_officer_55 : decode cX8_officer 55 = .ok (.aload_n 0, 1) := by decide +kernel
theorem dX8_officer_56 : decode cX8_officer 56 = .ok (.aload_n 0, 1) := by decide +kernel
theorem dX8_officer_57 : decode cX8_officer 57 = .ok (.iload_n 1, 1) := by decide +kernel
theorem dX8_officer_58 : decode cX8_officer 58 = .ok (.invokevirtual 138, 3) := by decide +kernel
theorem dX8_officer_61 : decode cX8_officer 61 = .ok (.aload_n 0, 1) := by decide +kernel
theorem dX8_officer_62 : decode cX8_officer 62 = .ok (.aload_n 0, 1) := by decide +kernel
theorem dX8_officer_63 : decode cX8_officer 63 = .ok (.getfield 28, 3) := by decide +kernel
theorem dX8_officer_66 : decode cX8_officer 66 = .ok (.invokevirtual 119, 3) := by decide +kernel
theorem dX8_officer_69 : decode cX8_officer 69 = .ok (.iand, 1) := by decide +kernel
theorem dX8_officer_70 : decode cX8_officer 70 = .ok (.invokevirtual 116, 3) := by decide +kernel
theorem dX8_officer_73 : decode cX8_officer 73 = .ok (.ireturn, 1) := by decide +kernel
set_option maxRecDepth 20000 in
theorem ggX8_bill_X8_isBill : GoodIn wsX8_bill wsX8_isBill := goodIn_r _ [6, 7, 8, 5, 9] (by decide +kernel) (by decide +kernel)
set_option maxRecDepth 20000 in
theorem gX8_bill_X8_isBill : GoodIn wsX8_bill (va_wsS RX8 141 yX8_isBill wsX8_isBill) := goodIn_app (goodIn_of _ (by decide +kernel)) ggX8_bill_X8_isBill
set_option maxRecDepth 20000 in
theorem ggX8_bill_X8_in : GoodIn wsX8_bill wsX8_in := goodIn_r _ [9] (by decide +kernel) (by decide +kernel)
set_option maxRecDepth 20000 in
theorem gX8_bill_X8_in : GoodIn wsX8_bill (va_wsS RX8 54 yX8_in wsX8_in) := goodIn_app (goodIn_of _ (by decide +kernel)) ggX8_bill_X8_in
set_option maxRecDepth 20000 in
theorem ggX8_bill_X8_voices : GoodIn wsX8_bill wsX8_voices := goodIn_r _ [13, 14, 15, 16, 17, 5, 18, 19, 38, 39, 40, 41, 42, 43, 44, 45, 46, 47, 48, 49, 50, 51, 52, 53, 54, 55, 56, 57, 58, 59, 60, 61] (by decide +kernel) (by decide +kernel)
set_option maxRecDepth 20000 in
theorem gX8_bill_X8_voices : GoodIn wsX8_bill (wsV RX8 119 RX8 yX8_voices wsX8_voices) := goodIn_app (goodIn_of _ (by decide +kernel)) ggX8_bill_X8_voices
set_option maxRecDepth 20000 in
theorem ggX8_bill_X8_saysYes : GoodIn wsX8_bill wsX8_saysYes := goodIn_r _ [23, 14, 24, 38, 39, 40, 41, 42, 43, 44, 45, 46, 47, 48, 49, 50, 51, 52, 53, 54, 55, 56, 57, 58, 59, 60, 61] (by decide +kernel) (by decide +kernel)
set_option maxRecDepth 20000 in
theorem gX8_bill_X8_saysYes : GoodIn wsX8_bill (wsV RX8 123 RX8 yX8_saysYes wsX8_saysYes) := goodIn_app (goodIn_of _ (by decide +kernel)) ggX8_bill_X8_saysYes
set_option maxRecDepth 20000 in
theorem ggX8_bill_X8_votesOf : GoodIn wsX8_bill wsX8_votesOf := goodIn_r _ [28, 14, 29, 38, 39, 40, 41, 42, 43, 44, 45, 46, 47, 48, 49, 50, 51, 52, 53, 54, 55, 56, 57, 58, 59, 60, 61] (by decide +kernel) (by decide +kernel)
set_option maxRecDepth 20000 in
theorem gX8_bill_X8_votesOf : GoodIn wsX8_bill (wsV RX8 116 RX8 yX8_votesOf wsX8_votesOf) := goodIn_app (goodIn_of _ (by decide +kernel)) ggX8_bill_X8_votesOf
set_option maxRecDepth 20000 in
theorem ggX8_bill_X8_passes : GoodIn wsX8_bill wsX8_passes := goodIn_r _ [33, 10, 11, 12, 5, 13, 14, 15, 16, 17, 18, 19, 20, 21, 22, 23, 24, 34, 35, 36, 37, 25, 26, 27, 28, 29, 38, 39, 40, 41, 42, 43, 44, 45, 46, 47, 48, 49, 50, 51, 52, 53, 54, 55, 56, 57, 58, 59, 60, 61] (by decide +kernel) (by decide +kernel)
set_option maxRecDepth 20000 in
theorem gX8_bill_X8_passes : GoodIn wsX8_bill (wsV RX8 144 RX8 yX8_passes wsX8_passes) := goodIn_app (goodIn_of _ (by decide +kernel)) ggX8_bill_X8_passes
theorem dX8_bill_0 : decode cX8_bill 0 = .ok (.aload_n 0, 1) := by decide +kernel
theorem dX8_bill_1 : decode cX8_bill 1 = .ok (.iconst 0, 1) := by decide +kernel
theorem dX8_bill_2 : decode cX8_bill 2 = .ok (.putfield 50, 3) := by decide +kernel
theorem dX8_bill_5 : decode cX8_bill 5 = .ok (.iload_n 1, 1) := by decide +kernel
theorem dX8_bill_6 : decode cX8_bill 6 = .ok (.invokestatic 141, 3) := by decide +kernel
theorem dX8_bill_9 : decode cX8_bill 9 = .ok (.ifCond .eq 12, 3) := by decide +kernel
theorem dX8_bill_12 : decode cX8_bill 12 = .ok (.iload_n 2, 1) := by decide +kernel
theorem dX8_bill_13 : decode cX8_bill 13 = .ok (.iconst 0, 1) := by decide +kernel
theorem dX8_bill_14 : decode cX8_bill 14 = .ok (.iconst 3, 1) := by decide +kernel
theorem dX8_bill_15 : decode cX8_bill 15 = .ok (.invokestatic 54, 3) := by decide +kernel
theorem dX8_bill_18 : decode cX8_bill 18 = .ok (.ifCond .ne 5, 3) := by decide +kernel
theorem dX8_bill_21 : decode cX8_bill 21 = .ok (.iconst (-1), 1) := by decide +kernel
theorem dX8_bill_22 : decode cX8_bill 22 = .ok (.ireturn, 1) := by decide +kernel
theorem dX8_bill_23 : decode cX8_bill 23 = .ok (.aload_n 0, 1) := by decide +kernel
theorem dX8_bill_24 : decode cX8_bill 24 = .ok (.aload_n 0, 1) := by decide +kernel
theorem dX8_bill_25 : decode cX8_bill 25 = .ok (.getfield 28, 3) := by decide +kernel
theorem dX8_bill_28 : decode cX8_bill 28 = .ok (.invokevirtual 119, 3) := by decide +kernel
theorem dX8_bill_31 : decode cX8_bill 31 = .ok (.aload_n 0, 1) := by decide +kernel
theorem dX8_bill_32 : decode cX8_bill 32 = .ok (.aload_n 0, 1) := by decide +kernel
theorem dX8_bill_33 : decode cX8_bill 33 = .ok (.getfield 28, 3) := by decide +kernel
theorem dX8_bill_36 : decode cX8_bill 36 = .ok (.iload_n 1, 1) := by decide +kernel
theorem dX8_bill_37 : decode cX8_bill 37 = .ok (.invokevirtual 123, 3) := by decide +kernel
theorem dX8_bill_40 : decode cX8_bill 40 = .ok (.iand, 1) := by decide +kernel
theorem dX8_bill_41 : decode cX8_bill 41 = .ok (.istore_n 3, 1) := by decide +kernel
theorem dX8_bill_42 : decode cX8_bill 42 = .ok (.aload_n 0, 1) := by decide +kernel
theorem dX8_bill_43 : decode cX8_bill 43 = .ok (.aload_n 0, 1) := by decide +kernel
theorem dX8_bill_44 : decode cX8_bill 44 = .ok (.getfield 28, 3) := by decide +kernel
theorem dX8_bill_47 : decode cX8_bill 47 = .ok (.invokevirtual 119, 3) := by decide +kernel
theorem dX8_bill_50 : decode cX8_bill 50 = .ok (.aload_n 0, 1) := by decide +kernel
theorem dX8_bill_51 : decode cX8_bill 51 = .ok (.aload_n 0, 1) := by decide +kernel
theorem dX8_bill_52 : decode cX8_bill 52 = .ok (.getfield 28, 3) := by decide +kernel
theorem dX8_bill_55 : decode cX8_bill 55 = .ok (.iload_n 1, 1) := by decide +kernel
theorem dX8_bill_56 : decode cX8_bill 56 = .ok (.invokevirtual 123, 3) := by decide +kernel
theorem dX8_bill_59 : decode cX8_bill 59 = .ok (.iconst (-1), 1) := by decide +kernel
theorem dX8_bill_60 : decode cX8_bill 60 = .ok (.ixor, 1) := by decide +kernel
theorem dX8_bill_61 : decode cX8_bill 61 = .ok (.iand, 1) := by decide +kernel
theorem dX8_bill_62 : decode cX8_bill 62 = .ok (.istore 4, 2) := by decide +kernel
theorem dX8_bill_64 : decode cX8_bill 64 = .ok (.iload_n 2, 1) := by decide +kernel
theorem dX8_bill_65 : decode cX8_bill 65 = .ok (.ifCond .ne 11, 3) := by decide +kernel
theorem dX8_bill_68 : decode cX8_bill 68 = .ok (.aload_n 0, 1) := by decide +kernel
theorem dX8_bill_69 : decode cX8_bill 69 = .ok (.iload_n 3, 1) := by decide +kernel
theorem dX8_bill_70 : decode cX8_bill 70 = .ok (.invokevirtual 116, 3) := by decide +kernel
theorem dX8_bill_73 : decode cX8_bill 73 = .ok (.goto 43, 3) := by decide +kernel
theorem dX8_bill_76 : decode cX8_bill 76 = .ok (.iload_n 2, 1) := by decide +kernel
theorem dX8_bill_77 : decode cX8_bill 77 = .ok (.iconst 1, 1) := by decide +kernel
theorem dX8_bill_78 : decode cX8_bill 78 = .ok (.if_icmp .ne 12, 3) := by decide +kernel
theorem dX8_bill_81 : decode cX8_bill 81 = .ok (.aload_n 0, 1) := by decide +kernel
theorem dX8_bill_82 : decode cX8_bill 82 = .ok (.iload 4, 2) := by decide +kernel
theorem dX8_bill_84 : decode cX8_bill 84 = .ok (.invokevirtual 116, 3) := by decide +kernel
theorem dX8_bill_87 : decode cX8_bill 87 = .ok (.goto 29, 3) := by decide +kernel
theorem dX8_bill_90 : decode cX8_bill 90 = .ok (.iload_n 2, 1) := by decide +kernel
theorem dX8_bill_91 : decode cX8_bill 91 = .ok (.iconst 2, 1) := by decide +kernel
theorem dX8_bill_92 : decode cX8_bill 92 = .ok (.if_icmp .ne 23, 3) := by decide +kernel
theorem dX8_bill_95 : decode cX8_bill 95 = .ok (.aload_n 0, 1) := by decide +kernel
theorem dX8_bill_96 : decode cX8_bill 96 = .ok (.aload_n 0, 1) := by decide +kernel
theorem dX8_bill_97 : decode cX8_bill 97 = .ok (.getfield 28, 3) := by decide +kernel
theorem dX8_bill_100 : decode cX8_bill 100 = .ok (.iload_n 1, 1) := by decide +kernel
theorem dX8_bill_101 : decode cX8_bill 101 = .ok (.invokevirtual 144, 3) := by decide +kernel
theorem dX8_bill_104 : decode cX8_bill 104 = .ok (.ifCond .eq 7, 3) := by decide +kernel
theorem dX8_bill_107 : decode cX8_bill 107 = .ok (.iconst 1, 1) := by decide +kernel
theorem dX8_bill_108 : decode cX8_bill 108 = .ok (.goto 8, 3) := by decide +kernel
theorem dX8_bill_111 : decode cX8_bill 111 = .ok (.iconst 0, 1) := by decide +kernel
theorem dX8_bill_112 : decode cX8_bill 112 = .ok (.goto 4, 3) := by decide +kernel
theorem dX8_bill_115 : decode cX8_bill 115 = .ok (.iload_n 3, 1) := by decide +kernel
theorem dX8_bill_116 : decode cX8_bill 116 = .ok (.ireturn, 1) := by decide +kernel
set_option maxRecDepth 20000 in
theorem ggX8_most_X8_heldBy : GoodIn wsX8_most wsX8_heldBy := goodIn_r _ [7, 1, 2, 22, 23, 24, 25, 26, 27, 28, 29, 30, 31, 32, 33, 34, 35, 36, 37, 38, 39, 40, 41, 42, 43, 44, 45] (by decide +kernel) (by decide +kernel)
set_option maxRecDepth 20000 in
theorem gX8_most_X8_heldBy : GoodIn wsX8_most (wsV RX8 138 RX8 yX8_heldBy wsX8_heldBy) := goodIn_app (goodIn_of _ (by decide +kernel)) ggX8_most_X8_heldBy
set_option maxRecDepth 20000 in
theorem ggX8_most_X8_voices : GoodIn wsX8_most wsX8_voices := goodIn_r _ [11, 1, 12, 13, 14, 6, 15, 16, 22, 23, 24, 25, 26, 27, 28, 29, 30, 31, 32, 33, 34, 35, 36, 37, 38, 39, 40, 41, 42, 43, 44, 45] (by decide +kernel) (by decide +kernel)
set_option maxRecDepth 20000 in
theorem gX8_most_X8_voices : GoodIn wsX8_most (wsV RX8 119 RX8 yX8_voices wsX8_voices) := goodIn_app (goodIn_of _ (by decide +kernel)) ggX8_most_X8_voices
set_option maxRecDepth 20000 in
theorem ggX8_most_X8_votesOf : GoodIn wsX8_most wsX8_votesOf := goodIn_r _ [20, 1, 21, 22, 23, 24, 25, 26, 27, 28, 29, 30, 31, 32, 33, 34, 35, 36, 37, 38, 39, 40, 41, 42, 43, 44, 45] (by decide +kernel) (by decide +kernel)
set_option maxRecDepth 20000 in
theorem gX8_most_X8_votesOf : GoodIn wsX8_most (wsV RX8 116 RX8 yX8_votesOf wsX8_votesOf) := goodIn_app (goodIn_of _ (by decide +kernel)) ggX8_most_X8_votesOf
theorem dX8_most_0 : decode cX8_most 0 = .ok (.iconst 0, 1) := by decide +kernel
theorem dX8_most_1 : decode cX8_most 1 = .ok (.istore_n 1, 1) := by decide +kernel
theorem dX8_most_2 : decode cX8_most 2 = .ok (.iconst 1, 1) := by decide +kernel
theorem dX8_most_3 : decode cX8_most 3 = .ok (.istore_n 2, 1) := by decide +kernel
theorem dX8_most_4 : decode cX8_most 4 = .ok (.iload_n 2, 1) := by decide +kernel
theorem dX8_most_5 : decode cX8_most 5 = .ok (.aload_n 0, 1) := by decide +kernel
theorem dX8_most_6 : decode cX8_most 6 = .ok (.getfield 13, 3) := by decide +kernel
theorem dX8_most_9 : decode cX8_most 9 = .ok (.iconst 1, 1) := by decide +kernel
theorem dX8_most_10 : decode cX8_most 10 = .ok (.iaload, 1) := by decide +kernel
theorem dX8_most_11 : decode cX8_most 11 = .ok (.if_icmp .ge 54, 3) := by decide +kernel
theorem dX8_most_14 : decode cX8_most 14 = .ok (.aload_n 0, 1) := by decide +kernel
theorem dX8_most_15 : decode cX8_most 15 = .ok (.aload_n 0, 1) := by decide +kernel
theorem dX8_most_16 : decode cX8_most 16 = .ok (.iload_n 2, 1) := by decide +kernel
theorem dX8_most_17 : decode cX8_most 17 = .ok (.invokevirtual 138, 3) := by decide +kernel
theorem dX8_most_20 : decode cX8_most 20 = .ok (.aload_n 0, 1) := by decide +kernel
theorem dX8_most_21 : decode cX8_most 21 = .ok (.aload_n 0, 1) := by decide +kernel
theorem dX8_most_22 : decode cX8_most 22 = .ok (.getfield 28, 3) := by decide +kernel
theorem dX8_most_25 : decode cX8_most 25 = .ok (.invokevirtual 119, 3) := by decide +kernel
theorem dX8_most_28 : decode cX8_most 28 = .ok (.iand, 1) := by decide +kernel
theorem dX8_most_29 : decode cX8_most 29 = .ok (.invokevirtual 116, 3) := by decide +kernel
theorem dX8_most_32 : decode cX8_most 32 = .ok (.aload_n 0, 1) := by decide +kernel
theorem dX8_most_33 : decode cX8_most 33 = .ok (.aload_n 0, 1) := by decide +kernel
theorem dX8_most_34 : decode cX8_most 34 = .ok (.iload_n 1, 1) := by decide +kernel
theorem dX8_most_35 : decode cX8_most 35 = .ok (.invokevirtual 138, 3) := by decide +kernel
theorem dX8_most_38 : decode cX8_most 38 = .ok (.aload_n 0, 1) := by decide +kernel
theorem dX8_most_39 : decode cX8_most 39 = .ok (.aload_n 0, 1) := by decide +kernel
theorem dX8_most_40 : decode cX8_most 40 = .ok (.getfield 28, 3) := by decide +kernel
theorem dX8_most_43 : decode cX8_most 43 = .ok (.invokevirtual 119, 3) := by decide +kernel
theorem dX8_most_46 : decode cX8_most 46 = .ok (.iand, 1) := by decide +kernel
theorem dX8_most_47 : decode cX8_most 47 = .ok (.invokevirtual 116, 3) := by decide +kernel
theorem dX8_most_50 : decode cX8_most 50 = .ok (.if_icmp .le 7, 3) := by decide +kernel
theorem dX8_most_53 : decode cX8_most 53 = .ok (.iload_n 2, 1) := by decide +kernel
theorem dX8_most_54 : decode cX8_most 54 = .ok (.goto 4, 3) := by decide +kernel
theorem dX8_most_57 : decode cX8_most 57 = .ok (.iload_n 1, 1) := by decide +kernel
theorem dX8_most_58 : decode cX8_most 58 = .ok (.istore_n 1, 1) := by decide +kernel
theorem dX8_most_59 : decode cX8_most 59 = .ok (.iinc 2 1, 3) := by decide +kernel
theorem dX8_most_62 : decode cX8_most 62 = .ok (.goto (-58), 3) := by decide +kernel
theorem dX8_most_65 : decode cX8_most 65 = .ok (.iload_n 1, 1) := by decide +kernel
theorem dX8_most_66 : decode cX8_most 66 = .ok (.ireturn, 1) := by decide +kernel
set_option maxRecDepth 20000 in
theorem ggX8_now_X8_in : GoodIn wsX8_now wsX8_in := goodIn_r _ [7] (by decide +kernel) (by decide +kernel)
set_option maxRecDepth 20000 in
theorem gX8_now_X8_in : GoodIn wsX8_now (va_wsS RX8 54 yX8_in wsX8_in) := goodIn_app (goodIn_of _ (by decide +kernel)) ggX8_now_X8_in
set_option maxRecDepth 20000 in
theorem ggX8_now_X8_voices : GoodIn wsX8_now wsX8_voices := goodIn_r _ [11, 12, 13, 14, 15, 6, 16, 17, 31, 32, 33, 34, 35, 36, 37, 38, 39, 40, 41, 42, 43, 44, 45, 46, 47, 48, 49, 50, 51, 52, 53, 54] (by decide +kernel) (by decide +kernel)
set_option maxRecDepth 20000 in
theorem gX8_now_X8_voices : GoodIn wsX8_now (wsV RX8 119 RX8 yX8_voices wsX8_voices) := goodIn_app (goodIn_of _ (by decide +kernel)) ggX8_now_X8_voices
set_option maxRecDepth 20000 in
theorem ggX8_now_X8_most : GoodIn wsX8_now wsX8_most := goodIn_r _ [21, 12, 2, 22, 23, 24, 6, 25, 8, 9, 10, 11, 13, 14, 15, 16, 17, 26, 27, 28, 29, 30, 31, 32, 33, 34, 35, 36, 37, 38, 39, 40, 41, 42, 43, 44, 45, 46, 47, 48, 49, 50, 51, 52, 53, 54] (by decide +kernel) (by decide +kernel)
set_option maxRecDepth 20000 in
theorem gX8_now_X8_most : GoodIn wsX8_now (wsV RX8 147 RX8 yX8_most wsX8_most) := goodIn_app (goodIn_of _ (by decide +kernel)) ggX8_now_X8_most
theorem dX8_now_0 : decode cX8_now 0 = .ok (.aload_n 0, 1) := by decide +kernel
theorem dX8_now_1 : decode cX8_now 1 = .ok (.iconst 0, 1) := by decide +kernel
theorem dX8_now_2 : decode cX8_now 2 = .ok (.putfield 50, 3) := by decide +kernel
theorem dX8_now_5 : decode cX8_now 5 = .ok (.iload_n 1, 1) := by decide +kernel
theorem dX8_now_6 : decode cX8_now 6 = .ok (.iconst 0, 1) := by decide +kernel
theorem dX8_now_7 : decode cX8_now 7 = .ok (.iconst 5, 1) := by decide +kernel
theorem dX8_now_8 : decode cX8_now 8 = .ok (.invokestatic 54, 3) := by decide +kernel
theorem dX8_now_11 : decode cX8_now 11 = .ok (.ifCond .ne 5, 3) := by decide +kernel
theorem dX8_now_14 : decode cX8_now 14 = .ok (.iconst (-1), 1) := by decide +kernel
theorem dX8_now_15 : decode cX8_now 15 = .ok (.ireturn, 1) := by decide +kernel
theorem dX8_now_16 : decode cX8_now 16 = .ok (.iload_n 1, 1) := by decide +kernel
theorem dX8_now_17 : decode cX8_now 17 = .ok (.iconst 2, 1) := by decide +kernel
theorem dX8_now_18 : decode cX8_now 18 = .ok (.if_icmp .ge 15, 3) := by decide +kernel
theorem dX8_now_21 : decode cX8_now 21 = .ok (.aload_n 0, 1) := by decide +kernel
theorem dX8_now_22 : decode cX8_now 22 = .ok (.getfield 28, 3) := by decide +kernel
theorem dX8_now_25 : decode cX8_now 25 = .ok (.bipush 17, 2) := by decide +kernel
theorem dX8_now_27 : decode cX8_now 27 = .ok (.iload_n 1, 1) := by decide +kernel
theorem dX8_now_28 : decode cX8_now 28 = .ok (.iadd, 1) := by decide +kernel
theorem dX8_now_29 : decode cX8_now 29 = .ok (.iaload, 1) := by decide +kernel
theorem dX8_now_30 : decode cX8_now 30 = .ok (.goto 50, 3) := by decide +kernel
theorem dX8_now_33 : decode cX8_now 33 = .ok (.iload_n 1, 1) := by decide +kernel
theorem dX8_now_34 : decode cX8_now 34 = .ok (.iconst 2, 1) := by decide +kernel
theorem dX8_now_35 : decode cX8_now 35 = .ok (.if_icmp .ne 14, 3) := by decide +kernel
theorem dX8_now_38 : decode cX8_now 38 = .ok (.aload_n 0, 1) := by decide +kernel
theorem dX8_now_39 : decode cX8_now 39 = .ok (.aload_n 0, 1) := by decide +kernel
theorem dX8_now_40 : decode cX8_now 40 = .ok (.getfield 28, 3) := by decide +kernel
theorem dX8_now_43 : decode cX8_now 43 = .ok (.invokevirtual 119, 3) := by decide +kernel
theorem dX8_now_46 : decode cX8_now 46 = .ok (.goto 34, 3) := by decide +kernel
theorem dX8_now_49 : decode cX8_now 49 = .ok (.iload_n 1, 1) := by decide +kernel
theorem dX8_now_50 : decode cX8_now 50 = .ok (.iconst 3, 1) := by decide +kernel
theorem dX8_now_51 : decode cX8_now 51 = .ok (.if_icmp .ne 13, 3) := by decide +kernel
theorem dX8_now_54 : decode cX8_now 54 = .ok (.aload_n 0, 1) := by decide +kernel
theorem dX8_now_55 : decode cX8_now 55 = .ok (.getfield 28, 3) := by decide +kernel
theorem dX8_now_58 : decode cX8_now 58 = .ok (.bipush 16, 2) := by decide +kernel
theorem dX8_now_60 : decode cX8_now 60 = .ok (.iaload, 1) := by decide +kernel
theorem dX8_now_61 : decode cX8_now 61 = .ok (.goto 19, 3) := by decide +kernel
theorem dX8_now_64 : decode cX8_now 64 = .ok (.iload_n 1, 1) := by decide +kernel
theorem dX8_now_65 : decode cX8_now 65 = .ok (.iconst 4, 1) := by decide +kernel
theorem dX8_now_66 : decode cX8_now 66 = .ok (.if_icmp .ne 10, 3) := by decide +kernel
theorem dX8_now_69 : decode cX8_now 69 = .ok (.aload_n 0, 1) := by decide +kernel
theorem dX8_now_70 : decode cX8_now 70 = .ok (.invokevirtual 147, 3) := by decide +kernel
theorem dX8_now_73 : decode cX8_now 73 = .ok (.goto 7, 3) := by decide +kernel
theorem dX8_now_76 : decode cX8_now 76 = .ok (.aload_n 0, 1) := by decide +kernel
theorem dX8_now_77 : decode cX8_now 77 = .ok (.getfield 109, 3) := by decide +kernel
theorem dX8_now_80 : decode cX8_now 80 = .ok (.ireturn, 1) := by decide +kernel
theorem dX8_notes_0 : decode cX8_notes 0 = .ok (.aload_n 0, 1) := by decide +kernel
theorem dX8_notes_1 : decode cX8_notes 1 = .ok (.getfield 109, 3) := by decide +kernel
theorem dX8_notes_4 : decode cX8_notes 4 = .ok (.bipush 10, 2) := by decide +kernel
theorem dX8_notes_6 : decode cX8_notes 6 = .ok (.if_icmp .ne 39, 3) := by decide +kernel
theorem dX8_notes_9 : decode cX8_notes 9 = .ok (.iconst 0, 1) := by decide +kernel
theorem dX8_notes_10 : decode cX8_notes 10 = .ok (.istore_n 1, 1) := by decide +kernel
theorem dX8_notes_11 : decode cX8_notes 11 = .ok (.iload_n 1, 1) := by decide +kernel
theorem dX8_notes_12 : decode cX8_notes 12 = .ok (.sipush 171, 3) := by decide +kernel
theorem dX8_notes_15 : decode cX8_notes 15 = .ok (.if_icmp .ge 24, 3) := by decide +kernel
theorem dX8_notes_18 : decode cX8_notes 18 = .ok (.aload_n 0, 1) := by decide +kernel
theorem dX8_notes_19 : decode cX8_notes 19 = .ok (.getfield 41, 3) := by decide +kernel
theorem dX8_notes_22 : decode cX8_notes 22 = .ok (.iload_n 1, 1) := by decide +kernel
theorem dX8_notes_23 : decode cX8_notes 23 = .ok (.aload_n 0, 1) := by decide +kernel
theorem dX8_notes_24 : decode cX8_notes 24 = .ok (.getfield 41, 3) := by decide +kernel
theorem dX8_notes_27 : decode cX8_notes 27 = .ok (.iload_n 1, 1) := by decide +kernel
theorem dX8_notes_28 : decode cX8_notes 28 = .ok (.bipush 19, 2) := by decide +kernel
theorem dX8_notes_30 : decode cX8_notes 30 = .ok (.iadd, 1) := by decide +kernel
theorem dX8_notes_31 : decode cX8_notes 31 = .ok (.iaload, 1) := by decide +kernel
theorem dX8_notes_32 : decode cX8_notes 32 = .ok (.iastore, 1) := by decide +kernel
theorem dX8_notes_33 : decode cX8_notes 33 = .ok (.iinc 1 1, 3) := by decide +kernel
theorem dX8_notes_36 : decode cX8_notes 36 = .ok (.goto (-25), 3) := by decide +kernel
theorem dX8_notes_39 : decode cX8_notes 39 = .ok (.aload_n 0, 1) := by decide +kernel
theorem dX8_notes_40 : decode cX8_notes 40 = .ok (.bipush 9, 2) := by decide +kernel
theorem dX8_notes_42 : decode cX8_notes 42 = .ok (.putfield 109, 3) := by decide +kernel
theorem dX8_notes_45 : decode cX8_notes 45 = .ok (.iconst 0, 1) := by decide +kernel
theorem dX8_notes_46 : decode cX8_notes 46 = .ok (.istore_n 1, 1) := by decide +kernel
theorem dX8_notes_47 : decode cX8_notes 47 = .ok (.iload_n 1, 1) := by decide +kernel
theorem dX8_notes_48 : decode cX8_notes 48 = .ok (.bipush 19, 2) := by decide +kernel
theorem dX8_notes_50 : decode cX8_notes 50 = .ok (.if_icmp .ge 29, 3) := by decide +kernel
theorem dX8_notes_53 : decode cX8_notes 53 = .ok (.aload_n 0, 1) := by decide +kernel
theorem dX8_notes_54 : decode cX8_notes 54 = .ok (.getfield 41, 3) := by decide +kernel
theorem dX8_notes_57 : decode cX8_notes 57 = .ok (.bipush 19, 2) := by decide +kernel
theorem dX8_notes_59 : decode cX8_notes 59 = .ok (.aload_n 0, 1) := by decide +kernel
theorem dX8_notes_60 : decode cX8_notes 60 = .ok (.getfield 109, 3) := by decide +kernel
theorem dX8_notes_63 : decode cX8_notes 63 = .ok (.imul, 1) := by decide +kernel
theorem dX8_notes_64 : decode cX8_notes 64 = .ok (.iload_n 1, 1) := by decide +kernel
theorem dX8_notes_65 : decode cX8_notes 65 = .ok (.iadd, 1) := by decide +kernel
theorem dX8_notes_66 : decode cX8_notes 66 = .ok (.aload_n 0, 1) := by decide +kernel
theorem dX8_notes_67 : decode cX8_notes 67 = .ok (.getfield 28, 3) := by decide +kernel
theorem dX8_notes_70 : decode cX8_notes 70 = .ok (.iload_n 1, 1) := by decide +kernel
theorem dX8_notes_71 : decode cX8_notes 71 = .ok (.iaload, 1) := by decide +kernel
theorem dX8_notes_72 : decode cX8_notes 72 = .ok (.iastore, 1) := by decide +kernel
theorem dX8_notes_73 : decode cX8_notes 73 = .ok (.iinc 1 1, 3) := by decide +kernel
theorem dX8_notes_76 : decode cX8_notes 76 = .ok (.goto (-29), 3) := by decide +kernel
theorem dX8_notes_79 : decode cX8_notes 79 = .ok (.aload_n 0, 1) := by decide +kernel
theorem dX8_notes_80 : decode cX8_notes 80 = .ok (.dup, 1) := by decide +kernel
theorem dX8_notes_81 : decode cX8_notes 81 = .ok (.getfield 109, 3) := by decide +kernel
theorem dX8_notes_84 : decode cX8_notes 84 = .ok (.iconst 1, 1) := by decide +kernel
theorem dX8_notes_85 : decode cX8_notes 85 = .ok (.iadd, 1) := by decide +kernel
theorem dX8_notes_86 : decode cX8_notes 86 = .ok (.putfield 109, 3) := by decide +kernel
theorem dX8_notes_89 : decode cX8_notes 89 = .ok (.return_, 1) := by decide +kernel
set_option maxRecDepth 20000 in
theorem ggX8_puts_X8_isBill : GoodIn wsX8_puts wsX8_isBill := goodIn_r _ [7, 8, 9, 6, 10] (by decide +kernel) (by decide +kernel)
set_option maxRecDepth 20000 in
theorem gX8_puts_X8_isBill : GoodIn wsX8_puts (va_wsS RX8 141 yX8_isBill wsX8_isBill) := goodIn_app (goodIn_of _ (by decide +kernel)) ggX8_puts_X8_isBill
set_option maxRecDepth 20000 in
theorem ggX8_puts_X8_notes : GoodIn wsX8_puts wsX8_notes := goodIn_r _ [14, 15, 16, 2, 44, 45, 46, 47, 48, 49, 50, 51, 52, 53, 54, 55, 56, 57, 58, 59, 60, 61, 62, 63, 64, 65, 66, 67] (by decide +kernel) (by decide +kernel)
set_option maxRecDepth 20000 in
theorem gX8_puts_X8_notes : GoodIn wsX8_puts (wsV RX8 151 RX8 yX8_notes wsX8_notes) := goodIn_app (goodIn_of _ (by decide +kernel)) ggX8_puts_X8_notes
set_option maxRecDepth 20000 in
theorem ggX8_puts_X8_passes : GoodIn wsX8_puts wsX8_passes := goodIn_r _ [20, 21, 22, 23, 6, 24, 3, 25, 26, 27, 28, 29, 30, 31, 32, 33, 34, 35, 36, 37, 38, 39, 40, 41, 42, 43, 44, 45, 46, 47, 48, 49, 50, 51, 52, 53, 54, 55, 56, 57, 58, 59, 60, 61, 62, 63, 64, 65, 66, 67] (by decide +kernel) (by decide +kernel)
set_option maxRecDepth 20000 in
theorem gX8_puts_X8_passes : GoodIn wsX8_puts (wsV RX8 144 RX8 yX8_passes wsX8_passes) := goodIn_app (goodIn_of _ (by decide +kernel)) ggX8_puts_X8_passes
theorem dX8_puts_0 : decode cX8_puts 0 = .ok (.aload_n 0, 1) := by decide +kernel
theorem dX8_puts_1 : decode cX8_puts 1 = .ok (.iconst 0, 1) := by decide +kernel
theorem dX8_puts_2 : decode cX8_puts 2 = .ok (.putfield 50, 3) := by decide +kernel
theorem dX8_puts_5 : decode cX8_puts 5 = .ok (.iload_n 1, 1) := by decide +kernel
theorem dX8_puts_6 : decode cX8_puts 6 = .ok (.invokestatic 141, 3) := by decide +kernel
theorem dX8_puts_9 : decode cX8_puts 9 = .ok (.ifCond .ne 5, 3) := by decide +kernel
theorem dX8_puts_12 : decode cX8_puts 12 = .ok (.iconst (-1), 1) := by decide +kernel
theorem dX8_puts_13 : decode cX8_puts 13 = .ok (.ireturn, 1) := by decide +kernel
theorem dX8_puts_14 : decode cX8_puts 14 = .ok (.aload_n 0, 1) := by decide +kernel
theorem dX8_puts_15 : decode cX8_puts 15 = .ok (.getfield 28, 3) := by decide +kernel
theorem dX8_puts_18 : decode cX8_puts 18 = .ok (.bipush 17, 2) := by decide +kernel
theorem dX8_puts_20 : decode cX8_puts 20 = .ok (.iaload, 1) := by decide +kernel
theorem dX8_puts_21 : decode cX8_puts 21 = .ok (.sipush 999, 3) := by decide +kernel
theorem dX8_puts_24 : decode cX8_puts 24 = .ok (.if_icmp .ne 6, 3) := by decide +kernel
theorem dX8_puts_27 : decode cX8_puts 27 = .ok (.bipush (-2), 2) := by decide +kernel
theorem dX8_puts_29 : decode cX8_puts 29 = .ok (.ireturn, 1) := by decide +kernel
theorem dX8_puts_30 : decode cX8_puts 30 = .ok (.aload_n 0, 1) := by decide +kernel
theorem dX8_puts_31 : decode cX8_puts 31 = .ok (.invokevirtual 151, 3) := by decide +kernel
theorem dX8_puts_34 : decode cX8_puts 34 = .ok (.aload_n 0, 1) := by decide +kernel
theorem dX8_puts_35 : decode cX8_puts 35 = .ok (.aload_n 0, 1) := by decide +kernel
theorem dX8_puts_36 : decode cX8_puts 36 = .ok (.getfield 28, 3) := by decide +kernel
theorem dX8_puts_39 : decode cX8_puts 39 = .ok (.iload_n 1, 1) := by decide +kernel
theorem dX8_puts_40 : decode cX8_puts 40 = .ok (.invokevirtual 144, 3) := by decide +kernel
theorem dX8_puts_43 : decode cX8_puts 43 = .ok (.ifCond .eq 7, 3) := by decide +kernel
theorem dX8_puts_46 : decode cX8_puts 46 = .ok (.iconst 1, 1) := by decide +kernel
theorem dX8_puts_47 : decode cX8_puts 47 = .ok (.goto 4, 3) := by decide +kernel
theorem dX8_puts_50 : decode cX8_puts 50 = .ok (.iconst 0, 1) := by decide +kernel
theorem dX8_puts_51 : decode cX8_puts 51 = .ok (.istore_n 2, 1) := by decide +kernel
theorem dX8_puts_52 : decode cX8_puts 52 = .ok (.aload_n 0, 1) := by decide +kernel
theorem dX8_puts_53 : decode cX8_puts 53 = .ok (.getfield 28, 3) := by decide +kernel
theorem dX8_puts_56 : decode cX8_puts 56 = .ok (.bipush 17, 2) := by decide +kernel
theorem dX8_puts_58 : decode cX8_puts 58 = .ok (.dup2, 1) := by decide +kernel
theorem dX8_puts_59 : decode cX8_puts 59 = .ok (.iaload, 1) := by decide +kernel
theorem dX8_puts_60 : decode cX8_puts 60 = .ok (.iconst 1, 1) := by decide +kernel
theorem dX8_puts_61 : decode cX8_puts 61 = .ok (.iadd, 1) := by decide +kernel
theorem dX8_puts_62 : decode cX8_puts 62 = .ok (.iastore, 1) := by decide +kernel
theorem dX8_puts_63 : decode cX8_puts 63 = .ok (.aload_n 0, 1) := by decide +kernel
theorem dX8_puts_64 : decode cX8_puts 64 = .ok (.getfield 28, 3) := by decide +kernel
theorem dX8_puts_67 : decode cX8_puts 67 = .ok (.bipush 18, 2) := by decide +kernel
theorem dX8_puts_69 : decode cX8_puts 69 = .ok (.dup2, 1) := by decide +kernel
theorem dX8_puts_70 : decode cX8_puts 70 = .ok (.iaload, 1) := by decide +kernel
theorem dX8_puts_71 : decode cX8_puts 71 = .ok (.iload_n 2, 1) := by decide +kernel
theorem dX8_puts_72 : decode cX8_puts 72 = .ok (.iadd, 1) := by decide +kernel
theorem dX8_puts_73 : decode cX8_puts 73 = .ok (.iastore, 1) := by decide +kernel
theorem dX8_puts_74 : decode cX8_puts 74 = .ok (.iconst 0, 1) := by decide +kernel
theorem dX8_puts_75 : decode cX8_puts 75 = .ok (.istore_n 3, 1) := by decide +kernel
theorem dX8_puts_76 : decode cX8_puts 76 = .ok (.iload_n 3, 1) := by decide +kernel
theorem dX8_puts_77 : decode cX8_puts 77 = .ok (.aload_n 0, 1) := by decide +kernel
theorem dX8_puts_78 : decode cX8_puts 78 = .ok (.getfield 13, 3) := by decide +kernel
theorem dX8_puts_81 : decode cX8_puts 81 = .ok (.iconst 0, 1) := by decide +kernel
theorem dX8_puts_82 : decode cX8_puts 82 = .ok (.iaload, 1) := by decide +kernel
theorem dX8_puts_83 : decode cX8_puts 83 = .ok (.if_icmp .ge 38, 3) := by decide +kernel
theorem dX8_puts_86 : decode cX8_puts 86 = .ok (.aload_n 0, 1) := by decide +kernel
theorem dX8_puts_87 : decode cX8_puts 87 = .ok (.getfield 28, 3) := by decide +kernel
theorem dX8_puts_90 : decode cX8_puts 90 = .ok (.bipush 7, 2) := by decide +kernel
theorem dX8_puts_92 : decode cX8_puts 92 = .ok (.iload_n 3, 1) := by decide +kernel
theorem dX8_puts_93 : decode cX8_puts 93 = .ok (.iadd, 1) := by decide +kernel
theorem dX8_puts_94 : decode cX8_puts 94 = .ok (.dup2, 1) := by decide +kernel
theorem dX8_puts_95 : decode cX8_puts 95 = .ok (.iaload, 1) := by decide +kernel
theorem dX8_puts_96 : decode cX8_puts 96 = .ok (.aload_n 0, 1) := by decide +kernel
theorem dX8_puts_97 : decode cX8_puts 97 = .ok (.getfield 28, 3) := by decide +kernel
theorem dX8_puts_100 : decode cX8_puts 100 = .ok (.bipush 7, 2) := by decide +kernel
theorem dX8_puts_102 : decode cX8_puts 102 = .ok (.iload_n 3, 1) := by decide +kernel
theorem dX8_puts_103 : decode cX8_puts 103 = .ok (.iadd, 1) := by decide +kernel
theorem dX8_puts_104 : decode cX8_puts 104 = .ok (.iaload, 1) := by decide +kernel
theorem dX8_puts_105 : decode cX8_puts 105 = .ok (.ifCond .le 7, 3) := by decide +kernel
theorem dX8_puts_108 : decode cX8_puts 108 = .ok (.iconst 1, 1) := by decide +kernel
theorem dX8_puts_109 : decode cX8_puts 109 = .ok (.goto 4, 3) := by decide +kernel
theorem dX8_puts_112 : decode cX8_puts 112 = .ok (.iconst 0, 1) := by decide +kernel
theorem dX8_puts_113 : decode cX8_puts 113 = .ok (.isub, 1) := by decide +kernel
theorem dX8_puts_114 : decode cX8_puts 114 = .ok (.iastore, 1) := by decide +kernel
theorem dX8_puts_115 : decode cX8_puts 115 = .ok (.iinc 3 1, 3) := by decide +kernel
theorem dX8_puts_118 : decode cX8_puts 118 = .ok (.goto (-42), 3) := by decide +kernel
theorem dX8_puts_121 : decode cX8_puts 121 = .ok (.iload_n 2, 1) := by decide +kernel
theorem dX8_puts_122 : decode cX8_puts 122 = .ok (.ireturn, 1) := by decide +kernel
set_option maxRecDepth 20000 in
theorem ggX8_hands_X8_isThing : GoodIn wsX8_hands wsX8_isThing := goodIn_r _ [7, 8, 9, 10, 6, 11, 22, 23, 24, 25, 26, 27, 28, 29, 30, 31, 32, 33, 34, 35, 36, 37, 38, 39, 40, 41, 42, 43, 44, 45] (by decide +kernel) (by decide +kernel)
set_option maxRecDepth 20000 in
theorem gX8_hands_X8_isThing : GoodIn wsX8_hands (wsV RX8 131 RX8 yX8_isThing wsX8_isThing) := goodIn_app (goodIn_of _ (by decide +kernel)) ggX8_hands_X8_isThing
set_option maxRecDepth 20000 in
theorem ggX8_hands_X8_isOfficer : GoodIn wsX8_hands wsX8_isOfficer := goodIn_r _ [15, 8, 9, 10, 6, 11, 22, 23, 24, 25, 26, 27, 28, 29, 30, 31, 32, 33, 34, 35, 36, 37, 38, 39, 40, 41, 42, 43, 44, 45] (by decide +kernel) (by decide +kernel)
set_option maxRecDepth 20000 in
theorem gX8_hands_X8_isOfficer : GoodIn wsX8_hands (wsV RX8 135 RX8 yX8_isOfficer wsX8_isOfficer) := goodIn_app (goodIn_of _ (by decide +kernel)) ggX8_hands_X8_isOfficer
set_option maxRecDepth 20000 in
theorem ggX8_hands_X8_notes : GoodIn wsX8_hands wsX8_notes := goodIn_r _ [19, 20, 21, 2, 22, 23, 24, 25, 26, 27, 28, 29, 30, 31, 32, 33, 34, 35, 36, 37, 38, 39, 40, 41, 42, 43, 44, 45] (by decide +kernel) (by decide +kernel)
set_option maxRecDepth 20000 in
theorem gX8_hands_X8_notes : GoodIn wsX8_hands (wsV RX8 151 RX8 yX8_notes wsX8_notes) := goodIn_app (goodIn_of _ (by decide +kernel)) ggX8_hands_X8_notes
theorem dX8_hands_0 : decode cX8_hands 0 = .ok (.aload_n 0, 1) := by decide +kernel
theorem dX8_hands_1 : decode cX8_hands 1 = .ok (.iconst 0, 1) := by decide +kernel
theorem dX8_hands_2 : decode cX8_hands 2 = .ok (.putfield 50, 3) := by decide +kernel
theorem dX8_hands_5 : decode cX8_hands 5 = .ok (.aload_n 0, 1) := by decide +kernel
theorem dX8_hands_6 : decode cX8_hands 6 = .ok (.iload_n 1, 1) := by decide +kernel
theorem dX8_hands_7 : decode cX8_hands 7 = .ok (.invokevirtual 131, 3) := by decide +kernel
theorem dX8_hands_10 : decode cX8_hands 10 = .ok (.ifCond .eq 11, 3) := by decide +kernel
theorem dX8_hands_13 : decode cX8_hands 13 = .ok (.aload_n 0, 1) := by decide +kernel
theorem dX8_hands_14 : decode cX8_hands 14 = .ok (.iload_n 2, 1) := by decide +kernel
theorem dX8_hands_15 : decode cX8_hands 15 = .ok (.invokevirtual 135, 3) := by decide +kernel
theorem dX8_hands_18 : decode cX8_hands 18 = .ok (.ifCond .ne 5, 3) := by decide +kernel
theorem dX8_hands_21 : decode cX8_hands 21 = .ok (.iconst (-1), 1) := by decide +kernel
theorem dX8_hands_22 : decode cX8_hands 22 = .ok (.ireturn, 1) := by decide +kernel
theorem dX8_hands_23 : decode cX8_hands 23 = .ok (.aload_n 0, 1) := by decide +kernel
theorem dX8_hands_24 : decode cX8_hands 24 = .ok (.invokevirtual 151, 3) := by decide +kernel
theorem dX8_hands_27 : decode cX8_hands 27 = .ok (.aload_n 0, 1) := by decide +kernel
theorem dX8_hands_28 : decode cX8_hands 28 = .ok (.getfield 28, 3) := by decide +kernel
theorem dX8_hands_31 : decode cX8_hands 31 = .ok (.iconst 0, 1) := by decide +kernel
theorem dX8_hands_32 : decode cX8_hands 32 = .ok (.iload_n 1, 1) := by decide +kernel
theorem dX8_hands_33 : decode cX8_hands 33 = .ok (.iadd, 1) := by decide +kernel
theorem dX8_hands_34 : decode cX8_hands 34 = .ok (.iaload, 1) := by decide +kernel
theorem dX8_hands_35 : decode cX8_hands 35 = .ok (.istore_n 3, 1) := by decide +kernel
theorem dX8_hands_36 : decode cX8_hands 36 = .ok (.aload_n 0, 1) := by decide +kernel
theorem dX8_hands_37 : decode cX8_hands 37 = .ok (.getfield 28, 3) := by decide +kernel
theorem dX8_hands_40 : decode cX8_hands 40 = .ok (.iconst 0, 1) := by decide +kernel
theorem dX8_hands_41 : decode cX8_hands 41 = .ok (.iload_n 1, 1) := by decide +kernel
theorem dX8_hands_42 : decode cX8_hands 42 = .ok (.iadd, 1) := by decide +kernel
theorem dX8_hands_43 : decode cX8_hands 43 = .ok (.iload_n 2, 1) := by decide +kernel
theorem dX8_hands_44 : decode cX8_hands 44 = .ok (.iastore, 1) := by decide +kernel
theorem dX8_hands_45 : decode cX8_hands 45 = .ok (.iload_n 3, 1) := by decide +kernel
theorem dX8_hands_46 : decode cX8_hands 46 = .ok (.ireturn, 1) := by decide +kernel
set_option maxRecDepth 20000 in
theorem ggX8_washes_X8_isThing : GoodIn wsX8_washes wsX8_isThing := goodIn_r _ [7, 8, 9, 10, 6, 11, 21, 22, 23, 24, 25, 26, 27, 28, 29, 30, 31, 32, 33, 34, 35, 36, 37, 38, 39, 40, 41, 42, 43, 44] (by decide +kernel) (by decide +kernel)
set_option maxRecDepth 20000 in
theorem gX8_washes_X8_isThing : GoodIn wsX8_washes (wsV RX8 131 RX8 yX8_isThing wsX8_isThing) := goodIn_app (goodIn_of _ (by decide +kernel)) ggX8_washes_X8_isThing
set_option maxRecDepth 20000 in
theorem ggX8_washes_X8_notes : GoodIn wsX8_washes wsX8_notes := goodIn_r _ [15, 16, 17, 2, 21, 22, 23, 24, 25, 26, 27, 28, 29, 30, 31, 32, 33, 34, 35, 36, 37, 38, 39, 40, 41, 42, 43, 44] (by decide +kernel) (by decide +kernel)
set_option maxRecDepth 20000 in
theorem gX8_washes_X8_notes : GoodIn wsX8_washes (wsV RX8 151 RX8 yX8_notes wsX8_notes) := goodIn_app (goodIn_of _ (by decide +kernel)) ggX8_washes_X8_notes
set_option maxRecDepth 20000 in
theorem ggX8_washes_X8_ones : GoodIn wsX8_washes wsX8_ones := goodIn_r _ [20] (by decide +kernel) (by decide +kernel)
set_option maxRecDepth 20000 in
theorem gX8_washes_X8_ones : GoodIn wsX8_washes (va_wsS RX8 154 yX8_ones wsX8_ones) := goodIn_app (goodIn_of _ (by decide +kernel)) ggX8_washes_X8_ones
theorem dX8_washes_0 : decode cX8_washes 0 = .ok (.aload_n 0, 1) := by decide +kernel
theorem dX8_washes_1 : decode cX8_washes 1 = .ok (.iconst 0, 1) := by decide +kernel
theorem dX8_washes_2 : decode cX8_washes 2 = .ok (.putfield 50, 3) := by decide +kernel
theorem dX8_washes_5 : decode cX8_washes 5 = .ok (.aload_n 0, 1) := by decide +kernel
theorem dX8_washes_6 : decode cX8_washes 6 = .ok (.iload_n 1, 1) := by decide +kernel
theorem dX8_washes_7 : decode cX8_washes 7 = .ok (.invokevirtual 131, 3) := by decide +kernel
theorem dX8_washes_10 : decode cX8_washes 10 = .ok (.ifCond .ne 5, 3) := by decide +kernel
theorem dX8_washes_13 : decode cX8_washes 13 = .ok (.iconst (-1), 1) := by decide +kernel
theorem dX8_washes_14 : decode cX8_washes 14 = .ok (.ireturn, 1) := by decide +kernel
theorem dX8_washes_15 : decode cX8_washes 15 = .ok (.aload_n 0, 1) := by decide +kernel
theorem dX8_washes_16 : decode cX8_washes 16 = .ok (.getfield 28, 3) := by decide +kernel
theorem dX8_washes_19 : decode cX8_washes 19 = .ok (.bipush 14, 2) := by decide +kernel
theorem dX8_washes_21 : decode cX8_washes 21 = .ok (.iaload, 1) := by decide +kernel
theorem dX8_washes_22 : decode cX8_washes 22 = .ok (.iload_n 1, 1) := by decide +kernel
theorem dX8_washes_23 : decode cX8_washes 23 = .ok (.ishr, 1) := by decide +kernel
theorem dX8_washes_24 : decode cX8_washes 24 = .ok (.iconst 1, 1) := by decide +kernel
theorem dX8_washes_25 : decode cX8_washes 25 = .ok (.iand, 1) := by decide +kernel
theorem dX8_washes_26 : decode cX8_washes 26 = .ok (.iconst 1, 1) := by decide +kernel
theorem dX8_washes_27 : decode cX8_washes 27 = .ok (.if_icmp .ne 6, 3) := by decide +kernel
theorem dX8_washes_30 : decode cX8_washes 30 = .ok (.bipush (-2), 2) := by decide +kernel
theorem dX8_washes_32 : decode cX8_washes 32 = .ok (.ireturn, 1) := by decide +kernel
theorem dX8_washes_33 : decode cX8_washes 33 = .ok (.aload_n 0, 1) := by decide +kernel
theorem dX8_washes_34 : decode cX8_washes 34 = .ok (.invokevirtual 151, 3) := by decide +kernel
theorem dX8_washes_37 : decode cX8_washes 37 = .ok (.aload_n 0, 1) := by decide +kernel
theorem dX8_washes_38 : decode cX8_washes 38 = .ok (.getfield 28, 3) := by decide +kernel
theorem dX8_washes_41 : decode cX8_washes 41 = .ok (.bipush 14, 2) := by decide +kernel
theorem dX8_washes_43 : decode cX8_washes 43 = .ok (.dup2, 1) := by decide +kernel
theorem dX8_washes_44 : decode cX8_washes 44 = .ok (.iaload, 1) := by decide +kernel
theorem dX8_washes_45 : decode cX8_washes 45 = .ok (.iconst 1, 1) := by decide +kernel
theorem dX8_washes_46 : decode cX8_washes 46 = .ok (.iload_n 1, 1) := by decide +kernel
theorem dX8_washes_47 : decode cX8_washes 47 = .ok (.ishl, 1) := by decide +kernel
theorem dX8_washes_48 : decode cX8_washes 48 = .ok (.ior, 1) := by decide +kernel
theorem dX8_washes_49 : decode cX8_washes 49 = .ok (.iastore, 1) := by decide +kernel
theorem dX8_washes_50 : decode cX8_washes 50 = .ok (.aload_n 0, 1) := by decide +kernel
theorem dX8_washes_51 : decode cX8_washes 51 = .ok (.getfield 28, 3) := by decide +kernel
theorem dX8_washes_54 : decode cX8_washes 54 = .ok (.bipush 14, 2) := by decide +kernel
theorem dX8_washes_56 : decode cX8_washes 56 = .ok (.iaload, 1) := by decide +kernel
theorem dX8_washes_57 : decode cX8_washes 57 = .ok (.invokestatic 154, 3) := by decide +kernel
theorem dX8_washes_60 : decode cX8_washes 60 = .ok (.ireturn, 1) := by decide +kernel
set_option maxRecDepth 20000 in
theorem ggX8_hangs_X8_isThing : GoodIn wsX8_hangs wsX8_isThing := goodIn_r _ [8, 9, 10, 11, 7, 12, 19, 20, 21, 22, 23, 24, 25, 26, 27, 28, 29, 30, 31, 32, 33, 34, 35, 36, 37, 38, 39, 40, 41, 42] (by decide +kernel) (by decide +kernel)
set_option maxRecDepth 20000 in
theorem gX8_hangs_X8_isThing : GoodIn wsX8_hangs (wsV RX8 131 RX8 yX8_isThing wsX8_isThing) := goodIn_app (goodIn_of _ (by decide +kernel)) ggX8_hangs_X8_isThing
set_option maxRecDepth 20000 in
theorem ggX8_hangs_X8_notes : GoodIn wsX8_hangs wsX8_notes := goodIn_r _ [16, 17, 18, 2, 19, 20, 21, 22, 23, 24, 25, 26, 27, 28, 29, 30, 31, 32, 33, 34, 35, 36, 37, 38, 39, 40, 41, 42] (by decide +kernel) (by decide +kernel)
set_option maxRecDepth 20000 in
theorem gX8_hangs_X8_notes : GoodIn wsX8_hangs (wsV RX8 151 RX8 yX8_notes wsX8_notes) := goodIn_app (goodIn_of _ (by decide +kernel)) ggX8_hangs_X8_notes
theorem dX8_hangs_0 : decode cX8_hangs 0 = .ok (.aload_n 0, 1) := by decide +kernel
theorem dX8_hangs_1 : decode cX8_hangs 1 = .ok (.iconst 0, 1) := by decide +kernel
theorem dX8_hangs_2 : decode cX8_hangs 2 = .ok (.putfield 50, 3) := by decide +kernel
theorem dX8_hangs_5 : decode cX8_hangs 5 = .ok (.aload_n 0, 1) := by decide +kernel
theorem dX8_hangs_6 : decode cX8_hangs 6 = .ok (.iload_n 1, 1) := by decide +kernel
theorem dX8_hangs_7 : decode cX8_hangs 7 = .ok (.invokevirtual 131, 3) := by decide +kernel
theorem dX8_hangs_10 : decode cX8_hangs 10 = .ok (.ifCond .ne 5, 3) := by decide +kernel
theorem dX8_hangs_13 : decode cX8_hangs 13 = .ok (.iconst (-1), 1) := by decide +kernel
theorem dX8_hangs_14 : decode cX8_hangs 14 = .ok (.ireturn, 1) := by decide +kernel
theorem dX8_hangs_15 : decode cX8_hangs 15 = .ok (.aload_n 0, 1) := by decide +kernel
theorem dX8_hangs_16 : decode cX8_hangs 16 = .ok (.getfield 28, 3) := by decide +kernel
theorem dX8_hangs_19 : decode cX8_hangs 19 = .ok (.bipush 14, 2) := by decide +kernel
theorem dX8_hangs_21 : decode cX8_hangs 21 = .ok (.iaload, 1) := by decide +kernel
theorem dX8_hangs_22 : decode cX8_hangs 22 = .ok (.iload_n 1, 1) := by decide +kernel
theorem dX8_hangs_23 : decode cX8_hangs 23 = .ok (.ishr, 1) := by decide +kernel
theorem dX8_hangs_24 : decode cX8_hangs 24 = .ok (.iconst 1, 1) := by decide +kernel
theorem dX8_hangs_25 : decode cX8_hangs 25 = .ok (.iand, 1) := by decide +kernel
theorem dX8_hangs_26 : decode cX8_hangs 26 = .ok (.ifCond .ne 6, 3) := by decide +kernel
theorem dX8_hangs_29 : decode cX8_hangs 29 = .ok (.bipush (-2), 2) := by decide +kernel
theorem dX8_hangs_31 : decode cX8_hangs 31 = .ok (.ireturn, 1) := by decide +kernel
theorem dX8_hangs_32 : decode cX8_hangs 32 = .ok (.aload_n 0, 1) := by decide +kernel
theorem dX8_hangs_33 : decode cX8_hangs 33 = .ok (.invokevirtual 151, 3) := by decide +kernel
theorem dX8_hangs_36 : decode cX8_hangs 36 = .ok (.aload_n 0, 1) := by decide +kernel
theorem dX8_hangs_37 : decode cX8_hangs 37 = .ok (.getfield 28, 3) := by decide +kernel
theorem dX8_hangs_40 : decode cX8_hangs 40 = .ok (.bipush 14, 2) := by decide +kernel
theorem dX8_hangs_42 : decode cX8_hangs 42 = .ok (.dup2, 1) := by decide +kernel
theorem dX8_hangs_43 : decode cX8_hangs 43 = .ok (.iaload, 1) := by decide +kernel
theorem dX8_hangs_44 : decode cX8_hangs 44 = .ok (.iconst 1, 1) := by decide +kernel
theorem dX8_hangs_45 : decode cX8_hangs 45 = .ok (.iload_n 1, 1) := by decide +kernel
theorem dX8_hangs_46 : decode cX8_hangs 46 = .ok (.ishl, 1) := by decide +kernel
theorem dX8_hangs_47 : decode cX8_hangs 47 = .ok (.iconst (-1), 1) := by decide +kernel
theorem dX8_hangs_48 : decode cX8_hangs 48 = .ok (.ixor, 1) := by decide +kernel
theorem dX8_hangs_49 : decode cX8_hangs 49 = .ok (.iand, 1) := by decide +kernel
theorem dX8_hangs_50 : decode cX8_hangs 50 = .ok (.iastore, 1) := by decide +kernel
theorem dX8_hangs_51 : decode cX8_hangs 51 = .ok (.aload_n 0, 1) := by decide +kernel
theorem dX8_hangs_52 : decode cX8_hangs 52 = .ok (.getfield 28, 3) := by decide +kernel
theorem dX8_hangs_55 : decode cX8_hangs 55 = .ok (.bipush 15, 2) := by decide +kernel
theorem dX8_hangs_57 : decode cX8_hangs 57 = .ok (.dup2, 1) := by decide +kernel
theorem dX8_hangs_58 : decode cX8_hangs 58 = .ok (.iaload, 1) := by decide +kernel
theorem dX8_hangs_59 : decode cX8_hangs 59 = .ok (.aload_n 0, 1) := by decide +kernel
theorem dX8_hangs_60 : decode cX8_hangs 60 = .ok (.getfield 16, 3) := by decide +kernel
theorem dX8_hangs_63 : decode cX8_hangs 63 = .ok (.iload_n 1, 1) := by decide +kernel
theorem dX8_hangs_64 : decode cX8_hangs 64 = .ok (.iaload, 1) := by decide +kernel
theorem dX8_hangs_65 : decode cX8_hangs 65 = .ok (.iconst 2, 1) := by decide +kernel
theorem dX8_hangs_66 : decode cX8_hangs 66 = .ok (.if_icmp .ne 9, 3) := by decide +kernel
theorem dX8_hangs_69 : decode cX8_hangs 69 = .ok (.iconst 1, 1) := by decide +kernel
theorem dX8_hangs_70 : decode cX8_hangs 70 = .ok (.iload_n 1, 1) := by decide +kernel
theorem dX8_hangs_71 : decode cX8_hangs 71 = .ok (.ishl, 1) := by decide +kernel
theorem dX8_hangs_72 : decode cX8_hangs 72 = .ok (.goto 4, 3) := by decide +kernel
theorem dX8_hangs_75 : decode cX8_hangs 75 = .ok (.iconst 0, 1) := by decide +kernel
theorem dX8_hangs_76 : decode cX8_hangs 76 = .ok (.ixor, 1) := by decide +kernel
theorem dX8_hangs_77 : decode cX8_hangs 77 = .ok (.iastore, 1) := by decide +kernel
theorem dX8_hangs_78 : decode cX8_hangs 78 = .ok (.aload_n 0, 1) := by decide +kernel
theorem dX8_hangs_79 : decode cX8_hangs 79 = .ok (.getfield 28, 3) := by decide +kernel
theorem dX8_hangs_82 : decode cX8_hangs 82 = .ok (.bipush 15, 2) := by decide +kernel
theorem dX8_hangs_84 : decode cX8_hangs 84 = .ok (.iaload, 1) := by decide +kernel
theorem dX8_hangs_85 : decode cX8_hangs 85 = .ok (.iload_n 1, 1) := by decide +kernel
theorem dX8_hangs_86 : decode cX8_hangs 86 = .ok (.ishr, 1) := by decide +kernel
theorem dX8_hangs_87 : decode cX8_hangs 87 = .ok (.iconst 1, 1) := by decide +kernel
theorem dX8_hangs_88 : decode cX8_hangs 88 = .ok (.iand, 1) := by decide +kernel
theorem dX8_hangs_89 : decode cX8_hangs 89 = .ok (.ireturn, 1) := by decide +kernel
set_option maxRecDepth 20000 in
theorem ggX8_warms_X8_isThing : GoodIn wsX8_warms wsX8_isThing := goodIn_r _ [9, 4, 10, 11, 8, 12, 19, 20, 21, 22, 23, 24, 25, 26, 27, 28, 29, 30, 31, 32, 33, 34, 35, 36, 37, 38, 39, 40, 41, 42] (by decide +kernel) (by decide +kernel)
set_option maxRecDepth 20000 in
theorem gX8_warms_X8_isThing : GoodIn wsX8_warms (wsV RX8 131 RX8 yX8_isThing wsX8_isThing) := goodIn_app (goodIn_of _ (by decide +kernel)) ggX8_warms_X8_isThing
set_option maxRecDepth 20000 in
theorem ggX8_warms_X8_notes : GoodIn wsX8_warms wsX8_notes := goodIn_r _ [16, 17, 18, 3, 19, 20, 21, 22, 23, 24, 25, 26, 27, 28, 29, 30, 31, 32, 33, 34, 35, 36, 37, 38, 39, 40, 41, 42] (by decide +kernel) (by decide +kernel)
set_option maxRecDepth 20000 in
theorem gX8_warms_X8_notes : GoodIn wsX8_warms (wsV RX8 151 RX8 yX8_notes wsX8_notes) := goodIn_app (goodIn_of _ (by decide +kernel)) ggX8_warms_X8_notes
theorem dX8_warms_0 : decode cX8_warms 0 = .ok (.aload_n 0, 1) := by decide +kernel
theorem dX8_warms_1 : decode cX8_warms 1 = .ok (.iconst 0, 1) := by decide +kernel
theorem dX8_warms_2 : decode cX8_warms 2 = .ok (.putfield 50, 3) := by decide +kernel
theorem dX8_warms_5 : decode cX8_warms 5 = .ok (.aload_n 0, 1) := by decide +kernel
theorem dX8_warms_6 : decode cX8_warms 6 = .ok (.iload_n 1, 1) := by decide +kernel
theorem dX8_warms_7 : decode cX8_warms 7 = .ok (.invokevirtual 131, 3) := by decide +kernel
theorem dX8_warms_10 : decode cX8_warms 10 = .ok (.ifCond .ne 5, 3) := by decide +kernel
theorem dX8_warms_13 : decode cX8_warms 13 = .ok (.iconst (-1), 1) := by decide +kernel
theorem dX8_warms_14 : decode cX8_warms 14 = .ok (.ireturn, 1) := by decide +kernel
theorem dX8_warms_15 : decode cX8_warms 15 = .ok (.aload_n 0, 1) := by decide +kernel
theorem dX8_warms_16 : decode cX8_warms 16 = .ok (.getfield 16, 3) := by decide +kernel
theorem dX8_warms_19 : decode cX8_warms 19 = .ok (.iload_n 1, 1) := by decide +kernel
theorem dX8_warms_20 : decode cX8_warms 20 = .ok (.iaload, 1) := by decide +kernel
theorem dX8_warms_21 : decode cX8_warms 21 = .ok (.iconst 1, 1) := by decide +kernel
theorem dX8_warms_22 : decode cX8_warms 22 = .ok (.if_icmp .eq 6, 3) := by decide +kernel
theorem dX8_warms_25 : decode cX8_warms 25 = .ok (.bipush (-2), 2) := by decide +kernel
theorem dX8_warms_27 : decode cX8_warms 27 = .ok (.ireturn, 1) := by decide +kernel
theorem dX8_warms_28 : decode cX8_warms 28 = .ok (.aload_n 0, 1) := by decide +kernel
theorem dX8_warms_29 : decode cX8_warms 29 = .ok (.invokevirtual 151, 3) := by decide +kernel
theorem dX8_warms_32 : decode cX8_warms 32 = .ok (.aload_n 0, 1) := by decide +kernel
theorem dX8_warms_33 : decode cX8_warms 33 = .ok (.getfield 28, 3) := by decide +kernel
theorem dX8_warms_36 : decode cX8_warms 36 = .ok (.bipush 7, 2) := by decide +kernel
theorem dX8_warms_38 : decode cX8_warms 38 = .ok (.iload_n 1, 1) := by decide +kernel
theorem dX8_warms_39 : decode cX8_warms 39 = .ok (.iadd, 1) := by decide +kernel
theorem dX8_warms_40 : decode cX8_warms 40 = .ok (.iaload, 1) := by decide +kernel
theorem dX8_warms_41 : decode cX8_warms 41 = .ok (.istore_n 2, 1) := by decide +kernel
theorem dX8_warms_42 : decode cX8_warms 42 = .ok (.aload_n 0, 1) := by decide +kernel
theorem dX8_warms_43 : decode cX8_warms 43 = .ok (.getfield 28, 3) := by decide +kernel
theorem dX8_warms_46 : decode cX8_warms 46 = .ok (.bipush 7, 2) := by decide +kernel
theorem dX8_warms_48 : decode cX8_warms 48 = .ok (.iload_n 1, 1) := by decide +kernel
theorem dX8_warms_49 : decode cX8_warms 49 = .ok (.iadd, 1) := by decide +kernel
theorem dX8_warms_50 : decode cX8_warms 50 = .ok (.aload_n 0, 1) := by decide +kernel
theorem dX8_warms_51 : decode cX8_warms 51 = .ok (.getfield 13, 3) := by decide +kernel
theorem dX8_warms_54 : decode cX8_warms 54 = .ok (.iconst 2, 1) := by decide +kernel
theorem dX8_warms_55 : decode cX8_warms 55 = .ok (.iaload, 1) := by decide +kernel
theorem dX8_warms_56 : decode cX8_warms 56 = .ok (.iastore, 1) := by decide +kernel
theorem dX8_warms_57 : decode cX8_warms 57 = .ok (.iload_n 2, 1) := by decide +kernel
theorem dX8_warms_58 : decode cX8_warms 58 = .ok (.ireturn, 1) := by decide +kernel
set_option maxRecDepth 20000 in
theorem ggX8_sickens_X8_isOfficer : GoodIn wsX8_sickens wsX8_isOfficer := goodIn_r _ [7, 8, 9, 10, 6, 11, 18, 19, 20, 21, 22, 23, 24, 25, 26, 27, 28, 29, 30, 31, 32, 33, 34, 35, 36, 37, 38, 39, 40, 41] (by decide +kernel) (by decide +kernel)
set_option maxRecDepth 20000 in
theorem gX8_sickens_X8_isOfficer : GoodIn wsX8_sickens (wsV RX8 135 RX8 yX8_isOfficer wsX8_isOfficer) := goodIn_app (goodIn_of _ (by decide +kernel)) ggX8_sickens_X8_isOfficer
set_option maxRecDepth 20000 in
theorem ggX8_sickens_X8_in : GoodIn wsX8_sickens wsX8_in := goodIn_r _ [11] (by decide +kernel) (by decide +kernel)
set_option maxRecDepth 20000 in
theorem gX8_sickens_X8_in : GoodIn wsX8_sickens (va_wsS RX8 54 yX8_in wsX8_in) := goodIn_app (goodIn_of _ (by decide +kernel)) ggX8_sickens_X8_in
set_option maxRecDepth 20000 in
theorem ggX8_sickens_X8_notes : GoodIn wsX8_sickens wsX8_notes := goodIn_r _ [15, 16, 17, 2, 18, 19, 20, 21, 22, 23, 24, 25, 26, 27, 28, 29, 30, 31, 32, 33, 34, 35, 36, 37, 38, 39, 40, 41] (by decide +kernel) (by decide +kernel)
set_option maxRecDepth 20000 in
theorem gX8_sickens_X8_notes : GoodIn wsX8_sickens (wsV RX8 151 RX8 yX8_notes wsX8_notes) := goodIn_app (goodIn_of _ (by decide +kernel)) ggX8_sickens_X8_notes
theorem dX8_sickens_0 : decode cX8_sickens 0 = .ok (.aload_n 0, 1) := by decide +kernel
theorem dX8_sickens_1 : decode cX8_sickens 1 = .ok (.iconst 0, 1) := by decide +kernel
theorem dX8_sickens_2 : decode cX8_sickens 2 = .ok (.putfield 50, 3) := by decide +kernel
theorem dX8_sickens_5 : decode cX8_sickens 5 = .ok (.aload_n 0, 1) := by decide +kernel
theorem dX8_sickens_6 : decode cX8_sickens 6 = .ok (.iload_n 1, 1) := by decide +kernel
theorem dX8_sickens_7 : decode cX8_sickens 7 = .ok (.invokevirtual 135, 3) := by decide +kernel
theorem dX8_sickens_10 : decode cX8_sickens 10 = .ok (.ifCond .eq 12, 3) := by decide +kernel
theorem dX8_sickens_13 : decode cX8_sickens 13 = .ok (.iload_n 2, 1) := by decide +kernel
theorem dX8_sickens_14 : decode cX8_sickens 14 = .ok (.iconst 0, 1) := by decide +kernel
theorem dX8_sickens_15 : decode cX8_sickens 15 = .ok (.iconst 1, 1) := by decide +kernel
theorem dX8_sickens_16 : decode cX8_sickens 16 = .ok (.invokestatic 54, 3) := by decide +kernel
theorem dX8_sickens_19 : decode cX8_sickens 19 = .ok (.ifCond .ne 5, 3) := by decide +kernel
theorem dX8_sickens_22 : decode cX8_sickens 22 = .ok (.iconst (-1), 1) := by decide +kernel
theorem dX8_sickens_23 : decode cX8_sickens 23 = .ok (.ireturn, 1) := by decide +kernel
theorem dX8_sickens_24 : decode cX8_sickens 24 = .ok (.aload_n 0, 1) := by decide +kernel
theorem dX8_sickens_25 : decode cX8_sickens 25 = .ok (.invokevirtual 151, 3) := by decide +kernel
theorem dX8_sickens_28 : decode cX8_sickens 28 = .ok (.aload_n 0, 1) := by decide +kernel
theorem dX8_sickens_29 : decode cX8_sickens 29 = .ok (.getfield 28, 3) := by decide +kernel
theorem dX8_sickens_32 : decode cX8_sickens 32 = .ok (.bipush 16, 2) := by decide +kernel
theorem dX8_sickens_34 : decode cX8_sickens 34 = .ok (.iaload, 1) := by decide +kernel
theorem dX8_sickens_35 : decode cX8_sickens 35 = .ok (.iload_n 1, 1) := by decide +kernel
theorem dX8_sickens_36 : decode cX8_sickens 36 = .ok (.ishr, 1) := by decide +kernel
theorem dX8_sickens_37 : decode cX8_sickens 37 = .ok (.iconst 1, 1) := by decide +kernel
theorem dX8_sickens_38 : decode cX8_sickens 38 = .ok (.iand, 1) := by decide +kernel
theorem dX8_sickens_39 : decode cX8_sickens 39 = .ok (.istore_n 3, 1) := by decide +kernel
theorem dX8_sickens_40 : decode cX8_sickens 40 = .ok (.aload_n 0, 1) := by decide +kernel
theorem dX8_sickens_41 : decode cX8_sickens 41 = .ok (.getfield 28, 3) := by decide +kernel
theorem dX8_sickens_44 : decode cX8_sickens 44 = .ok (.bipush 16, 2) := by decide +kernel
theorem dX8_sickens_46 : decode cX8_sickens 46 = .ok (.aload_n 0, 1) := by decide +kernel
theorem dX8_sickens_47 : decode cX8_sickens 47 = .ok (.getfield 28, 3) := by decide +kernel
theorem dX8_sickens_50 : decode cX8_sickens 50 = .ok (.bipush 16, 2) := by decide +kernel
theorem dX8_sickens_52 : decode cX8_sickens 52 = .ok (.iaload, 1) := by decide +kernel
theorem dX8_sickens_53 : decode cX8_sickens 53 = .ok (.iconst 1, 1) := by decide +kernel
theorem dX8_sickens_54 : decode cX8_sickens 54 = .ok (.iload_n 1, 1) := by decide +kernel
theorem dX8_sickens_55 : decode cX8_sickens 55 = .ok (.ishl, 1) := by decide +kernel
theorem dX8_sickens_56 : decode cX8_sickens 56 = .ok (.iconst (-1), 1) := by decide +kernel
theorem dX8_sickens_57 : decode cX8_sickens 57 = .ok (.ixor, 1) := by decide +kernel
theorem dX8_sickens_58 : decode cX8_sickens 58 = .ok (.iand, 1) := by decide +kernel
theorem dX8_sickens_59 : decode cX8_sickens 59 = .ok (.iload_n 2, 1) := by decide +kernel
theorem dX8_sickens_60 : decode cX8_sickens 60 = .ok (.iload_n 1, 1) := by decide +kernel
theorem dX8_sickens_61 : decode cX8_sickens 61 = .ok (.ishl, 1) := by decide +kernel
theorem dX8_sickens_62 : decode cX8_sickens 62 = .ok (.ior, 1) := by decide +kernel
theorem dX8_sickens_63 : decode cX8_sickens 63 = .ok (.iastore, 1) := by decide +kernel
theorem dX8_sickens_64 : decode cX8_sickens 64 = .ok (.iload_n 3, 1) := by decide +kernel
theorem dX8_sickens_65 : decode cX8_sickens 65 = .ok (.ireturn, 1) := by decide +kernel
theorem dX8_undo_0 : decode cX8_undo 0 = .ok (.aload_n 0, 1) := by decide +kernel
theorem dX8_undo_1 : decode cX8_undo 1 = .ok (.iconst 0, 1) := by decide +kernel
theorem dX8_undo_2 : decode cX8_undo 2 = .ok (.putfield 50, 3) := by decide +kernel
theorem dX8_undo_5 : decode cX8_undo 5 = .ok (.aload_n 0, 1) := by decide +kernel
theorem dX8_undo_6 : decode cX8_undo 6 = .ok (.getfield 109, 3) := by decide +kernel
theorem dX8_undo_9 : decode cX8_undo 9 = .ok (.ifCond .ne 6, 3) := by decide +kernel
theorem dX8_undo_12 : decode cX8_undo 12 = .ok (.bipush (-2), 2) := by decide +kernel
theorem dX8_undo_14 : decode cX8_undo 14 = .ok (.ireturn, 1) := by decide +kernel
theorem dX8_undo_15 : decode cX8_undo 15 = .ok (.aload_n 0, 1) := by decide +kernel
theorem dX8_undo_16 : decode cX8_undo 16 = .ok (.dup, 1) := by decide +kernel
theorem dX8_undo_17 : decode cX8_undo 17 = .ok (.getfield 109, 3) := by decide +kernel
theorem dX8_undo_20 : decode cX8_undo 20 = .ok (.iconst 1, 1) := by decide +kernel
theorem dX8_undo_21 : decode cX8_undo 21 = .ok (.isub, 1) := by decide +kernel
theorem dX8_undo_22 : decode cX8_undo 22 = .ok (.putfield 109, 3) := by decide +kernel
theorem dX8_undo_25 : decode cX8_undo 25 = .ok (.iconst 0, 1) := by decide +kernel
theorem dX8_undo_26 : decode cX8_undo 26 = .ok (.istore_n 1, 1) := by decide +kernel
theorem dX8_undo_27 : decode cX8_undo 27 = .ok (.iload_n 1, 1) := by decide +kernel
theorem dX8_undo_28 : decode cX8_undo 28 = .ok (.bipush 19, 2) := by decide +kernel
theorem dX8_undo_30 : decode cX8_undo 30 = .ok (.if_icmp .ge 29, 3) := by decide +kernel
theorem dX8_undo_33 : decode cX8_undo 33 = .ok (.aload_n 0, 1) := by decide +kernel
theorem dX8_undo_34 : decode cX8_undo 34 = .ok (.getfield 28, 3) := by decide +kernel
theorem dX8_undo_37 : decode cX8_undo 37 = .ok (.iload_n 1, 1) := by decide +kernel
theorem dX8_undo_38 : decode cX8_undo 38 = .ok (.aload_n 0, 1) := by decide +kernel
theorem dX8_undo_39 : decode cX8_undo 39 = .ok (.getfield 41, 3) := by decide +kernel
theorem dX8_undo_42 : decode cX8_undo 42 = .ok (.bipush 19, 2) := by decide +kernel
theorem dX8_undo_44 : decode cX8_undo 44 = .ok (.aload_n 0, 1) := by decide +kernel
theorem dX8_undo_45 : decode cX8_undo 45 = .ok (.getfield 109, 3) := by decide +kernel
theorem dX8_undo_48 : decode cX8_undo 48 = .ok (.imul, 1) := by decide +kernel
theorem dX8_undo_49 : decode cX8_undo 49 = .ok (.iload_n 1, 1) := by decide +kernel
theorem dX8_undo_50 : decode cX8_undo 50 = .ok (.iadd, 1) := by decide +kernel
theorem dX8_undo_51 : decode cX8_undo 51 = .ok (.iaload, 1) := by decide +kernel
theorem dX8_undo_52 : decode cX8_undo 52 = .ok (.iastore, 1) := by decide +kernel
theorem dX8_undo_53 : decode cX8_undo 53 = .ok (.iinc 1 1, 3) := by decide +kernel
theorem dX8_undo_56 : decode cX8_undo 56 = .ok (.goto (-29), 3) := by decide +kernel
theorem dX8_undo_59 : decode cX8_undo 59 = .ok (.aload_n 0, 1) := by decide +kernel
theorem dX8_undo_60 : decode cX8_undo 60 = .ok (.getfield 109, 3) := by decide +kernel
theorem dX8_undo_63 : decode cX8_undo 63 = .ok (.ireturn, 1) := by decide +kernel
set_option maxRecDepth 20000 in
theorem ggX8_carries_X8_votesOf : GoodIn wsX8_carries wsX8_votesOf := goodIn_r _ [6, 7, 8, 18, 19, 20, 21, 22, 23, 24, 25, 26, 27, 28, 29, 30, 31, 32, 33, 34, 35, 36, 37, 38, 39, 40, 41] (by decide +kernel) (by decide +kernel)
set_option maxRecDepth 20000 in
theorem gX8_carries_X8_votesOf : GoodIn wsX8_carries (wsV RX8 116 RX8 yX8_votesOf wsX8_votesOf) := goodIn_app (goodIn_of _ (by decide +kernel)) ggX8_carries_X8_votesOf
set_option maxRecDepth 20000 in
theorem ggX8_carries_X8_voices : GoodIn wsX8_carries wsX8_voices := goodIn_r _ [12, 7, 13, 14, 15, 5, 16, 17, 18, 19, 20, 21, 22, 23, 24, 25, 26, 27, 28, 29, 30, 31, 32, 33, 34, 35, 36, 37, 38, 39, 40, 41] (by decide +kernel) (by decide +kernel)
set_option maxRecDepth 20000 in
theorem gX8_carries_X8_voices : GoodIn wsX8_carries (wsV RX8 119 RX8 yX8_voices wsX8_voices) := goodIn_app (goodIn_of _ (by decide +kernel)) ggX8_carries_X8_voices
theorem dX8_carries_0 : decode cX8_carries 0 = .ok (.iconst 2, 1) := by decide +kernel
theorem dX8_carries_1 : decode cX8_carries 1 = .ok (.aload_n 0, 1) := by decide +kernel
theorem dX8_carries_2 : decode cX8_carries 2 = .ok (.iload_n 1, 1) := by decide +kernel
theorem dX8_carries_3 : decode cX8_carries 3 = .ok (.invokevirtual 116, 3) := by decide +kernel
theorem dX8_carries_6 : decode cX8_carries 6 = .ok (.imul, 1) := by decide +kernel
theorem dX8_carries_7 : decode cX8_carries 7 = .ok (.aload_n 0, 1) := by decide +kernel
theorem dX8_carries_8 : decode cX8_carries 8 = .ok (.aload_n 0, 1) := by decide +kernel
theorem dX8_carries_9 : decode cX8_carries 9 = .ok (.aload_n 0, 1) := by decide +kernel
theorem dX8_carries_10 : decode cX8_carries 10 = .ok (.getfield 28, 3) := by decide +kernel
theorem dX8_carries_13 : decode cX8_carries 13 = .ok (.invokevirtual 119, 3) := by decide +kernel
theorem dX8_carries_16 : decode cX8_carries 16 = .ok (.invokevirtual 116, 3) := by decide +kernel
theorem dX8_carries_19 : decode cX8_carries 19 = .ok (.if_icmp .le 7, 3) := by decide +kernel
theorem dX8_carries_22 : decode cX8_carries 22 = .ok (.iconst 1, 1) := by decide +kernel
theorem dX8_carries_23 : decode cX8_carries 23 = .ok (.goto 4, 3) := by decide +kernel
theorem dX8_carries_26 : decode cX8_carries 26 = .ok (.iconst 0, 1) := by decide +kernel
theorem dX8_carries_27 : decode cX8_carries 27 = .ok (.ireturn, 1) := by decide +kernel
theorem dX8_orders_0 : decode cX8_orders 0 = .ok (.iconst 1, 1) := by decide +kernel
theorem dX8_orders_1 : decode cX8_orders 1 = .ok (.istore_n 1, 1) := by decide +kernel
theorem dX8_orders_2 : decode cX8_orders 2 = .ok (.iconst 2, 1) := by decide +kernel
theorem dX8_orders_3 : decode cX8_orders 3 = .ok (.istore_n 2, 1) := by decide +kernel
theorem dX8_orders_4 : decode cX8_orders 4 = .ok (.iload_n 2, 1) := by decide +kernel
theorem dX8_orders_5 : decode cX8_orders 5 = .ok (.iload_n 0, 1) := by decide +kernel
theorem dX8_orders_6 : decode cX8_orders 6 = .ok (.if_icmp .gt 13, 3) := by decide +kernel
theorem dX8_orders_9 : decode cX8_orders 9 = .ok (.iload_n 1, 1) := by decide +kernel
theorem dX8_orders_10 : decode cX8_orders 10 = .ok (.iload_n 2, 1) := by decide +kernel
theorem dX8_orders_11 : decode cX8_orders 11 = .ok (.imul, 1) := by decide +kernel
theorem dX8_orders_12 : decode cX8_orders 12 = .ok (.istore_n 1, 1) := by decide +kernel
theorem dX8_orders_13 : decode cX8_orders 13 = .ok (.iinc 2 1, 3) := by decide +kernel
theorem dX8_orders_16 : decode cX8_orders 16 = .ok (.goto (-12), 3) := by decide +kernel
theorem dX8_orders_19 : decode cX8_orders 19 = .ok (.iload_n 1, 1) := by decide +kernel
theorem dX8_orders_20 : decode cX8_orders 20 = .ok (.ireturn, 1) := by decide +kernel
set_option maxRecDepth 20000 in
theorem ggX8_decides_X8_voices : GoodIn wsX8_decides wsX8_voices := goodIn_r _ [6, 7, 8, 9, 10, 5, 11, 12, 28, 29, 30, 31, 32, 33, 34, 35, 36, 37, 38, 39, 40, 41, 42, 43, 44, 45, 46, 47, 48, 49, 50, 51] (by decide +kernel) (by decide +kernel)
set_option maxRecDepth 20000 in
theorem gX8_decides_X8_voices : GoodIn wsX8_decides (wsV RX8 119 RX8 yX8_voices wsX8_voices) := goodIn_app (goodIn_of _ (by decide +kernel)) ggX8_decides_X8_voices
set_option maxRecDepth 20000 in
theorem ggX8_decides_X8_carries : GoodIn wsX8_decides wsX8_carries := goodIn_r _ [16, 1, 17, 18, 19, 5, 20, 7, 21, 2, 3, 4, 6, 8, 9, 10, 11, 12, 28, 29, 30, 31, 32, 33, 34, 35, 36, 37, 38, 39, 40, 41, 42, 43, 44, 45, 46, 47, 48, 49, 50, 51] (by decide +kernel) (by decide +kernel)
set_option maxRecDepth 20000 in
theorem gX8_decides_X8_carries : GoodIn wsX8_decides (wsV RX8 157 RX8 yX8_carries wsX8_carries) := goodIn_app (goodIn_of _ (by decide +kernel)) ggX8_decides_X8_carries
set_option maxRecDepth 20000 in
theorem ggX8_decides_X8_ones : GoodIn wsX8_decides wsX8_ones := goodIn_r _ [24] (by decide +kernel) (by decide +kernel)
set_option maxRecDepth 20000 in
theorem gX8_decides_X8_ones : GoodIn wsX8_decides (va_wsS RX8 154 yX8_ones wsX8_ones) := goodIn_app (goodIn_of _ (by decide +kernel)) ggX8_decides_X8_ones
set_option maxRecDepth 20000 in
theorem ggX8_decides_X8_orders : GoodIn wsX8_decides wsX8_orders := goodIn_r _ [27] (by decide +kernel) (by decide +kernel)
set_option maxRecDepth 20000 in
theorem gX8_decides_X8_orders : GoodIn wsX8_decides (va_wsS RX8 160 yX8_orders wsX8_orders) := goodIn_app (goodIn_of _ (by decide +kernel)) ggX8_decides_X8_orders
theorem dX8_decides_0 : decode cX8_decides 0 = .ok (.aload_n 0, 1) := by decide +kernel
theorem dX8_decides_1 : decode cX8_decides 1 = .ok (.aload_n 0, 1) := by decide +kernel
theorem dX8_decides_2 : decode cX8_decides 2 = .ok (.getfield 28, 3) := by decide +kernel
theorem dX8_decides_5 : decode cX8_decides 5 = .ok (.invokevirtual 119, 3) := by decide +kernel
theorem dX8_decides_8 : decode cX8_decides 8 = .ok (.istore_n 2, 1) := by decide +kernel
theorem dX8_decides_9 : decode cX8_decides 9 = .ok (.iconst 0, 1) := by decide +kernel
theorem dX8_decides_10 : decode cX8_decides 10 = .ok (.istore_n 3, 1) := by decide +kernel
theorem dX8_decides_11 : decode cX8_decides 11 = .ok (.iconst 0, 1) := by decide +kernel
theorem dX8_decides_12 : decode cX8_decides 12 = .ok (.istore 4, 2) := by decide +kernel
theorem dX8_decides_14 : decode cX8_decides 14 = .ok (.iload 4, 2) := by decide +kernel
theorem dX8_decides_16 : decode cX8_decides 16 = .ok (.sipush 128, 3) := by decide +kernel
theorem dX8_decides_19 : decode cX8_decides 19 = .ok (.if_icmp .ge 92, 3) := by decide +kernel
theorem dX8_decides_22 : decode cX8_decides 22 = .ok (.iload 4, 2) := by decide +kernel
theorem dX8_decides_24 : decode cX8_decides 24 = .ok (.iload_n 2, 1) := by decide +kernel
theorem dX8_decides_25 : decode cX8_decides 25 = .ok (.iconst (-1), 1) := by decide +kernel
theorem dX8_decides_26 : decode cX8_decides 26 = .ok (.ixor, 1) := by decide +kernel
theorem dX8_decides_27 : decode cX8_decides 27 = .ok (.iand, 1) := by decide +kernel
theorem dX8_decides_28 : decode cX8_decides 28 = .ok (.ifCond .ne 16, 3) := by decide +kernel
theorem dX8_decides_31 : decode cX8_decides 31 = .ok (.iload 4, 2) := by decide +kernel
theorem dX8_decides_33 : decode cX8_decides 33 = .ok (.iload_n 1, 1) := by decide +kernel
theorem dX8_decides_34 : decode cX8_decides 34 = .ok (.ishr, 1) := by decide +kernel
theorem dX8_decides_35 : decode cX8_decides 35 = .ok (.iconst 1, 1) := by decide +kernel
theorem dX8_decides_36 : decode cX8_decides 36 = .ok (.iand, 1) := by decide +kernel
theorem dX8_decides_37 : decode cX8_decides 37 = .ok (.ifCond .ne 7, 3) := by decide +kernel
theorem dX8_decides_40 : decode cX8_decides 40 = .ok (.iconst 1, 1) := by decide +kernel
theorem dX8_decides_41 : decode cX8_decides 41 = .ok (.goto 4, 3) := by decide +kernel
theorem dX8_decides_44 : decode cX8_decides 44 = .ok (.iconst 0, 1) := by decide +kernel
theorem dX8_decides_45 : decode cX8_decides 45 = .ok (.istore 5, 2) := by decide +kernel
theorem dX8_decides_47 : decode cX8_decides 47 = .ok (.iload_n 3, 1) := by decide +kernel
theorem dX8_decides_48 : decode cX8_decides 48 = .ok (.iload 5, 2) := by decide +kernel
theorem dX8_decides_50 : decode cX8_decides 50 = .ok (.ifCond .eq 52, 3) := by decide +kernel
theorem dX8_decides_53 : decode cX8_decides 53 = .ok (.aload_n 0, 1) := by decide +kernel
theorem dX8_decides_54 : decode cX8_decides 54 = .ok (.iload 4, 2) := by decide +kernel
theorem dX8_decides_56 : decode cX8_decides 56 = .ok (.invokevirtual 157, 3) := by decide +kernel
theorem dX8_decides_59 : decode cX8_decides 59 = .ok (.ifCond .ne 43, 3) := by decide +kernel
theorem dX8_decides_62 : decode cX8_decides 62 = .ok (.aload_n 0, 1) := by decide +kernel
theorem dX8_decides_63 : decode cX8_decides 63 = .ok (.iload 4, 2) := by decide +kernel
theorem dX8_decides_65 : decode cX8_decides 65 = .ok (.iconst 1, 1) := by decide +kernel
theorem dX8_decides_66 : decode cX8_decides 66 = .ok (.iload_n 1, 1) := by decide +kernel
theorem dX8_decides_67 : decode cX8_decides 67 = .ok (.ishl, 1) := by decide +kernel
theorem dX8_decides_68 : decode cX8_decides 68 = .ok (.ior, 1) := by decide +kernel
theorem dX8_decides_69 : decode cX8_decides 69 = .ok (.invokevirtual 157, 3) := by decide +kernel
theorem dX8_decides_72 : decode cX8_decides 72 = .ok (.ifCond .eq 30, 3) := by decide +kernel
theorem dX8_decides_75 : decode cX8_decides 75 = .ok (.iload 4, 2) := by decide +kernel
theorem dX8_decides_77 : decode cX8_decides 77 = .ok (.invokestatic 154, 3) := by decide +kernel
theorem dX8_decides_80 : decode cX8_decides 80 = .ok (.invokestatic 160, 3) := by decide +kernel
theorem dX8_decides_83 : decode cX8_decides 83 = .ok (.iload_n 2, 1) := by decide +kernel
theorem dX8_decides_84 : decode cX8_decides 84 = .ok (.invokestatic 154, 3) := by decide +kernel
theorem dX8_decides_87 : decode cX8_decides 87 = .ok (.iconst 1, 1) := by decide +kernel
theorem dX8_decides_88 : decode cX8_decides 88 = .ok (.isub, 1) := by decide +kernel
theorem dX8_decides_89 : decode cX8_decides 89 = .ok (.iload 4, 2) := by decide +kernel
theorem dX8_decides_91 : decode cX8_decides 91 = .ok (.invokestatic 154, 3) := by decide +kernel
theorem dX8_decides_94 : decode cX8_decides 94 = .ok (.isub, 1) := by decide +kernel
theorem dX8_decides_95 : decode cX8_decides 95 = .ok (.invokestatic 160, 3) := by decide +kernel
theorem dX8_decides_98 : decode cX8_decides 98 = .ok (.imul, 1) := by decide +kernel
theorem dX8_decides_99 : decode cX8_decides 99 = .ok (.goto 4, 3) := by decide +kernel
theorem dX8_decides_102 : decode cX8_decides 102 = .ok (.iconst 0, 1) := by decide +kernel
theorem dX8_decides_103 : decode cX8_decides 103 = .ok (.iadd, 1) := by decide +kernel
theorem dX8_decides_104 : decode cX8_decides 104 = .ok (.istore_n 3, 1) := by decide +kernel
theorem dX8_decides_105 : decode cX8_decides 105 = .ok (.iinc 4 1, 3) := by decide +kernel
theorem dX8_decides_108 : decode cX8_decides 108 = .ok (.goto (-94), 3) := by decide +kernel
theorem dX8_decides_111 : decode cX8_decides 111 = .ok (.iload_n 3, 1) := by decide +kernel
theorem dX8_decides_112 : decode cX8_decides 112 = .ok (.ireturn, 1) := by decide +kernel
theorem dX8_gcd_0 : decode cX8_gcd 0 = .ok (.iload_n 0, 1) := by decide +kernel
theorem dX8_gcd_1 : decode cX8_gcd 1 = .ok (.istore_n 2, 1) := by decide +kernel
theorem dX8_gcd_2 : decode cX8_gcd 2 = .ok (.iload_n 1, 1) := by decide +kernel
theorem dX8_gcd_3 : decode cX8_gcd 3 = .ok (.istore_n 3, 1) := by decide +kernel
theorem dX8_gcd_4 : decode cX8_gcd 4 = .ok (.iload_n 3, 1) := by decide +kernel
theorem dX8_gcd_5 : decode cX8_gcd 5 = .ok (.ifCond .eq 16, 3) := by decide +kernel
theorem dX8_gcd_8 : decode cX8_gcd 8 = .ok (.iload_n 2, 1) := by decide +kernel
theorem dX8_gcd_9 : decode cX8_gcd 9 = .ok (.iload_n 3, 1) := by decide +kernel
theorem dX8_gcd_10 : decode cX8_gcd 10 = .ok (.irem, 1) := by decide +kernel
theorem dX8_gcd_11 : decode cX8_gcd 11 = .ok (.istore 4, 2) := by decide +kernel
theorem dX8_gcd_13 : decode cX8_gcd 13 = .ok (.iload_n 3, 1) := by decide +kernel
theorem dX8_gcd_14 : decode cX8_gcd 14 = .ok (.istore_n 2, 1) := by decide +kernel
theorem dX8_gcd_15 : decode cX8_gcd 15 = .ok (.iload 4, 2) := by decide +kernel
theorem dX8_gcd_17 : decode cX8_gcd 17 = .ok (.istore_n 3, 1) := by decide +kernel
theorem dX8_gcd_18 : decode cX8_gcd 18 = .ok (.goto (-14), 3) := by decide +kernel
theorem dX8_gcd_21 : decode cX8_gcd 21 = .ok (.iload_n 2, 1) := by decide +kernel
theorem dX8_gcd_22 : decode cX8_gcd 22 = .ok (.ireturn, 1) := by decide +kernel
set_option maxRecDepth 20000 in
theorem ggX8_power_X8_isThing : GoodIn wsX8_power wsX8_isThing := goodIn_r _ [7, 8, 9, 10, 6, 11, 43, 44, 45, 46, 47, 48, 49, 50, 51, 52, 53, 54, 55, 56, 57, 58, 59, 60, 61, 62, 63, 64, 65, 66] (by decide +kernel) (by decide +kernel)
set_option maxRecDepth 20000 in
theorem gX8_power_X8_isThing : GoodIn wsX8_power (wsV RX8 131 RX8 yX8_isThing wsX8_isThing) := goodIn_app (goodIn_of _ (by decide +kernel)) ggX8_power_X8_isThing
set_option maxRecDepth 20000 in
theorem ggX8_power_X8_in : GoodIn wsX8_power wsX8_in := goodIn_r _ [11] (by decide +kernel) (by decide +kernel)
set_option maxRecDepth 20000 in
theorem gX8_power_X8_in : GoodIn wsX8_power (va_wsS RX8 54 yX8_in wsX8_in) := goodIn_app (goodIn_of _ (by decide +kernel)) ggX8_power_X8_in
set_option maxRecDepth 20000 in
theorem ggX8_power_X8_speaks : GoodIn wsX8_power wsX8_speaks := goodIn_r _ [15, 16, 43, 44, 45, 46, 47, 48, 49, 50, 51, 52, 53, 54, 55, 56, 57, 58, 59, 60, 61, 62, 63, 64, 65, 66] (by decide +kernel) (by decide +kernel)
set_option maxRecDepth 20000 in
theorem gX8_power_X8_speaks : GoodIn wsX8_power (wsV RX8 112 RX8 yX8_speaks wsX8_speaks) := goodIn_app (goodIn_of _ (by decide +kernel)) ggX8_power_X8_speaks
set_option maxRecDepth 20000 in
theorem ggX8_power_X8_decides : GoodIn wsX8_power wsX8_decides := goodIn_r _ [20, 2, 21, 22, 23, 6, 24, 8, 12, 13, 14, 15, 16, 25, 26, 27, 28, 29, 30, 31, 32, 33, 34, 35, 36, 37, 38, 39, 43, 44, 45, 46, 47, 48, 49, 50, 51, 52, 53, 54, 55, 56, 57, 58, 59, 60, 61, 62, 63, 64, 65, 66] (by decide +kernel) (by decide +kernel)
set_option maxRecDepth 20000 in
theorem gX8_power_X8_decides : GoodIn wsX8_power (wsV RX8 163 RX8 yX8_decides wsX8_decides) := goodIn_app (goodIn_of _ (by decide +kernel)) ggX8_power_X8_decides
set_option maxRecDepth 20000 in
theorem ggX8_power_X8_voices : GoodIn wsX8_power wsX8_voices := goodIn_r _ [24, 8, 12, 13, 14, 6, 15, 16, 43, 44, 45, 46, 47, 48, 49, 50, 51, 52, 53, 54, 55, 56, 57, 58, 59, 60, 61, 62, 63, 64, 65, 66] (by decide +kernel) (by decide +kernel)
set_option maxRecDepth 20000 in
theorem gX8_power_X8_voices : GoodIn wsX8_power (wsV RX8 119 RX8 yX8_voices wsX8_voices) := goodIn_app (goodIn_of _ (by decide +kernel)) ggX8_power_X8_voices
set_option maxRecDepth 20000 in
theorem ggX8_power_X8_ones : GoodIn wsX8_power wsX8_ones := goodIn_r _ [36] (by decide +kernel) (by decide +kernel)
set_option maxRecDepth 20000 in
theorem gX8_power_X8_ones : GoodIn wsX8_power (va_wsS RX8 154 yX8_ones wsX8_ones) := goodIn_app (goodIn_of _ (by decide +kernel)) ggX8_power_X8_ones
set_option maxRecDepth 20000 in
theorem ggX8_power_X8_orders : GoodIn wsX8_power wsX8_orders := goodIn_r _ [39] (by decide +kernel) (by decide +kernel)
set_option maxRecDepth 20000 in
theorem gX8_power_X8_orders : GoodIn wsX8_power (va_wsS RX8 160 yX8_orders wsX8_orders) := goodIn_app (goodIn_of _ (by decide +kernel)) ggX8_power_X8_orders
set_option maxRecDepth 20000 in
theorem ggX8_power_X8_gcd : GoodIn wsX8_power wsX8_gcd := goodIn_r _ [42] (by decide +kernel) (by decide +kernel)
set_option maxRecDepth 20000 in
theorem gX8_power_X8_gcd : GoodIn wsX8_power (va_wsS RX8 166 yX8_gcd wsX8_gcd) := goodIn_app (goodIn_of _ (by decide +kernel)) ggX8_power_X8_gcd
theorem dX8_power_0 : decode cX8_power 0 = .ok (.aload_n 0, 1) := by decide +kernel
theorem dX8_power_1 : decode cX8_power 1 = .ok (.iconst 0, 1) := by decide +kernel
theorem dX8_power_2 : decode cX8_power 2 = .ok (.putfield 50, 3) := by decide +kernel
theorem dX8_power_5 : decode cX8_power 5 = .ok (.aload_n 0, 1) := by decide +kernel
theorem dX8_power_6 : decode cX8_power 6 = .ok (.iload_n 1, 1) := by decide +kernel
theorem dX8_power_7 : decode cX8_power 7 = .ok (.invokevirtual 131, 3) := by decide +kernel
theorem dX8_power_10 : decode cX8_power 10 = .ok (.ifCond .eq 12, 3) := by decide +kernel
theorem dX8_power_13 : decode cX8_power 13 = .ok (.iload_n 2, 1) := by decide +kernel
theorem dX8_power_14 : decode cX8_power 14 = .ok (.iconst 0, 1) := by decide +kernel
theorem dX8_power_15 : decode cX8_power 15 = .ok (.iconst 1, 1) := by decide +kernel
theorem dX8_power_16 : decode cX8_power 16 = .ok (.invokestatic 54, 3) := by decide +kernel
theorem dX8_power_19 : decode cX8_power 19 = .ok (.ifCond .ne 5, 3) := by decide +kernel
theorem dX8_power_22 : decode cX8_power 22 = .ok (.iconst (-1), 1) := by decide +kernel
theorem dX8_power_23 : decode cX8_power 23 = .ok (.ireturn, 1) := by decide +kernel
theorem dX8_power_24 : decode cX8_power 24 = .ok (.aload_n 0, 1) := by decide +kernel
theorem dX8_power_25 : decode cX8_power 25 = .ok (.aload_n 0, 1) := by decide +kernel
theorem dX8_power_26 : decode cX8_power 26 = .ok (.getfield 28, 3) := by decide +kernel
theorem dX8_power_29 : decode cX8_power 29 = .ok (.iload_n 1, 1) := by decide +kernel
theorem dX8_power_30 : decode cX8_power 30 = .ok (.invokevirtual 112, 3) := by decide +kernel
theorem dX8_power_33 : decode cX8_power 33 = .ok (.ifCond .ne 5, 3) := by decide +kernel
theorem dX8_power_36 : decode cX8_power 36 = .ok (.iload_n 2, 1) := by decide +kernel
theorem dX8_power_37 : decode cX8_power 37 = .ok (.ireturn, 1) := by decide +kernel
theorem dX8_power_38 : decode cX8_power 38 = .ok (.aload_n 0, 1) := by decide +kernel
theorem dX8_power_39 : decode cX8_power 39 = .ok (.iload_n 1, 1) := by decide +kernel
theorem dX8_power_40 : decode cX8_power 40 = .ok (.invokevirtual 163, 3) := by decide +kernel
theorem dX8_power_43 : decode cX8_power 43 = .ok (.istore_n 3, 1) := by decide +kernel
theorem dX8_power_44 : decode cX8_power 44 = .ok (.aload_n 0, 1) := by decide +kernel
theorem dX8_power_45 : decode cX8_power 45 = .ok (.aload_n 0, 1) := by decide +kernel
theorem dX8_power_46 : decode cX8_power 46 = .ok (.getfield 28, 3) := by decide +kernel
theorem dX8_power_49 : decode cX8_power 49 = .ok (.invokevirtual 119, 3) := by decide +kernel
theorem dX8_power_52 : decode cX8_power 52 = .ok (.invokestatic 154, 3) := by decide +kernel
theorem dX8_power_55 : decode cX8_power 55 = .ok (.invokestatic 160, 3) := by decide +kernel
theorem dX8_power_58 : decode cX8_power 58 = .ok (.istore 4, 2) := by decide +kernel
theorem dX8_power_60 : decode cX8_power 60 = .ok (.iload_n 3, 1) := by decide +kernel
theorem dX8_power_61 : decode cX8_power 61 = .ok (.iload 4, 2) := by decide +kernel
theorem dX8_power_63 : decode cX8_power 63 = .ok (.invokestatic 166, 3) := by decide +kernel
theorem dX8_power_66 : decode cX8_power 66 = .ok (.istore 5, 2) := by decide +kernel
theorem dX8_power_68 : decode cX8_power 68 = .ok (.iload_n 2, 1) := by decide +kernel
theorem dX8_power_69 : decode cX8_power 69 = .ok (.ifCond .ne 10, 3) := by decide +kernel
theorem dX8_power_72 : decode cX8_power 72 = .ok (.iload_n 3, 1) := by decide +kernel
theorem dX8_power_73 : decode cX8_power 73 = .ok (.iload 5, 2) := by decide +kernel
theorem dX8_power_75 : decode cX8_power 75 = .ok (.idiv, 1) := by decide +kernel
theorem dX8_power_76 : decode cX8_power 76 = .ok (.goto 8, 3) := by decide +kernel
theorem dX8_power_79 : decode cX8_power 79 = .ok (.iload 4, 2) := by decide +kernel
theorem dX8_power_81 : decode cX8_power 81 = .ok (.iload 5, 2) := by decide +kernel
theorem dX8_power_83 : decode cX8_power 83 = .ok (.idiv, 1) := by decide +kernel
theorem dX8_power_84 : decode cX8_power 84 = .ok (.ireturn, 1) := by decide +kernel
set_option maxRecDepth 20000 in
theorem ggX8_isLeast_X8_voices : GoodIn wsX8_isLeast wsX8_voices := goodIn_r _ [7, 2, 8, 9, 10, 6, 11, 12, 22, 23, 24, 25, 26, 27, 28, 29, 30, 31, 32, 33, 34, 35, 36, 37, 38, 39, 40, 41, 42, 43, 44, 45] (by decide +kernel) (by decide +kernel)
set_option maxRecDepth 20000 in
theorem gX8_isLeast_X8_voices : GoodIn wsX8_isLeast (wsV RX8 119 RX8 yX8_voices wsX8_voices) := goodIn_app (goodIn_of _ (by decide +kernel)) ggX8_isLeast_X8_voices
set_option maxRecDepth 20000 in
theorem ggX8_isLeast_X8_carries : GoodIn wsX8_isLeast wsX8_carries := goodIn_r _ [16, 1, 17, 18, 19, 6, 20, 2, 21, 3, 4, 5, 7, 8, 9, 10, 11, 12, 22, 23, 24, 25, 26, 27, 28, 29, 30, 31, 32, 33, 34, 35, 36, 37, 38, 39, 40, 41, 42, 43, 44, 45] (by decide +kernel) (by decide +kernel)
set_option maxRecDepth 20000 in
theorem gX8_isLeast_X8_carries : GoodIn wsX8_isLeast (wsV RX8 157 RX8 yX8_carries wsX8_carries) := goodIn_app (goodIn_of _ (by decide +kernel)) ggX8_isLeast_X8_carries
theorem dX8_isLeast_0 : decode cX8_isLeast 0 = .ok (.iload_n 1, 1) := by decide +kernel
theorem dX8_isLeast_1 : decode cX8_isLeast 1 = .ok (.aload_n 0, 1) := by decide +kernel
theorem dX8_isLeast_2 : decode cX8_isLeast 2 = .ok (.aload_n 0, 1) := by decide +kernel
theorem dX8_isLeast_3 : decode cX8_isLeast 3 = .ok (.getfield 28, 3) := by decide +kernel
theorem dX8_isLeast_6 : decode cX8_isLeast 6 = .ok (.invokevirtual 119, 3) := by decide +kernel
theorem dX8_isLeast_9 : decode cX8_isLeast 9 = .ok (.iconst (-1), 1) := by decide +kernel
theorem dX8_isLeast_10 : decode cX8_isLeast 10 = .ok (.ixor, 1) := by decide +kernel
theorem dX8_isLeast_11 : decode cX8_isLeast 11 = .ok (.iand, 1) := by decide +kernel
theorem dX8_isLeast_12 : decode cX8_isLeast 12 = .ok (.ifCond .ne 15, 3) := by decide +kernel
theorem dX8_isLeast_15 : decode cX8_isLeast 15 = .ok (.aload_n 0, 1) := by decide +kernel
theorem dX8_isLeast_16 : decode cX8_isLeast 16 = .ok (.iload_n 1, 1) := by decide +kernel
theorem dX8_isLeast_17 : decode cX8_isLeast 17 = .ok (.invokevirtual 157, 3) := by decide +kernel
theorem dX8_isLeast_20 : decode cX8_isLeast 20 = .ok (.ifCond .eq 7, 3) := by decide +kernel
theorem dX8_isLeast_23 : decode cX8_isLeast 23 = .ok (.iconst 1, 1) := by decide +kernel
theorem dX8_isLeast_24 : decode cX8_isLeast 24 = .ok (.goto 4, 3) := by decide +kernel
theorem dX8_isLeast_27 : decode cX8_isLeast 27 = .ok (.iconst 0, 1) := by decide +kernel
theorem dX8_isLeast_28 : decode cX8_isLeast 28 = .ok (.istore_n 2, 1) := by decide +kernel
theorem dX8_isLeast_29 : decode cX8_isLeast 29 = .ok (.iconst 0, 1) := by decide +kernel
theorem dX8_isLeast_30 : decode cX8_isLeast 30 = .ok (.istore_n 3, 1) := by decide +kernel
theorem dX8_isLeast_31 : decode cX8_isLeast 31 = .ok (.iload_n 3, 1) := by decide +kernel
theorem dX8_isLeast_32 : decode cX8_isLeast 32 = .ok (.aload_n 0, 1) := by decide +kernel
theorem dX8_isLeast_33 : decode cX8_isLeast 33 = .ok (.getfield 13, 3) := by decide +kernel
theorem dX8_isLeast_36 : decode cX8_isLeast 36 = .ok (.iconst 0, 1) := by decide +kernel
theorem dX8_isLeast_37 : decode cX8_isLeast 37 = .ok (.iaload, 1) := by decide +kernel
theorem dX8_isLeast_38 : decode cX8_isLeast 38 = .ok (.if_icmp .ge 41, 3) := by decide +kernel
theorem dX8_isLeast_41 : decode cX8_isLeast 41 = .ok (.iload_n 2, 1) := by decide +kernel
theorem dX8_isLeast_42 : decode cX8_isLeast 42 = .ok (.ifCond .eq 29, 3) := by decide +kernel
theorem dX8_isLeast_45 : decode cX8_isLeast 45 = .ok (.iload_n 1, 1) := by decide +kernel
theorem dX8_isLeast_46 : decode cX8_isLeast 46 = .ok (.iload_n 3, 1) := by decide +kernel
theorem dX8_isLeast_47 : decode cX8_isLeast 47 = .ok (.ishr, 1) := by decide +kernel
theorem dX8_isLeast_48 : decode cX8_isLeast 48 = .ok (.iconst 1, 1) := by decide +kernel
theorem dX8_isLeast_49 : decode cX8_isLeast 49 = .ok (.iand, 1) := by decide +kernel
theorem dX8_isLeast_50 : decode cX8_isLeast 50 = .ok (.ifCond .eq 17, 3) := by decide +kernel
theorem dX8_isLeast_53 : decode cX8_isLeast 53 = .ok (.aload_n 0, 1) := by decide +kernel
theorem dX8_isLeast_54 : decode cX8_isLeast 54 = .ok (.iload_n 1, 1) := by decide +kernel
theorem dX8_isLeast_55 : decode cX8_isLeast 55 = .ok (.iconst 1, 1) := by decide +kernel
theorem dX8_isLeast_56 : decode cX8_isLeast 56 = .ok (.iload_n 3, 1) := by decide +kernel
theorem dX8_isLeast_57 : decode cX8_isLeast 57 = .ok (.ishl, 1) := by decide +kernel
theorem dX8_isLeast_58 : decode cX8_isLeast 58 = .ok (.iconst (-1), 1) := by decide +kernel
theorem dX8_isLeast_59 : decode cX8_isLeast 59 = .ok (.ixor, 1) := by decide +kernel
theorem dX8_isLeast_60 : decode cX8_isLeast 60 = .ok (.iand, 1) := by decide +kernel
theorem dX8_isLeast_61 : decode cX8_isLeast 61 = .ok (.invokevirtual 157, 3) := by decide +kernel
theorem dX8_isLeast_64 : decode cX8_isLeast 64 = .ok (.ifCond .ne 7, 3) := by decide +kernel
theorem dX8_isLeast_67 : decode cX8_isLeast 67 = .ok (.iconst 1, 1) := by decide +kernel
theorem dX8_isLeast_68 : decode cX8_isLeast 68 = .ok (.goto 4, 3) := by decide +kernel
theorem dX8_isLeast_71 : decode cX8_isLeast 71 = .ok (.iconst 0, 1) := by decide +kernel
theorem dX8_isLeast_72 : decode cX8_isLeast 72 = .ok (.istore_n 2, 1) := by decide +kernel
theorem dX8_isLeast_73 : decode cX8_isLeast 73 = .ok (.iinc 3 1, 3) := by decide +kernel
theorem dX8_isLeast_76 : decode cX8_isLeast 76 = .ok (.goto (-45), 3) := by decide +kernel
theorem dX8_isLeast_79 : decode cX8_isLeast 79 = .ok (.iload_n 2, 1) := by decide +kernel
theorem dX8_isLeast_80 : decode cX8_isLeast 80 = .ok (.ireturn, 1) := by decide +kernel
set_option maxRecDepth 20000 in
theorem ggX8_least_X8_in : GoodIn wsX8_least wsX8_in := goodIn_r _ [5] (by decide +kernel) (by decide +kernel)
set_option maxRecDepth 20000 in
theorem gX8_least_X8_in : GoodIn wsX8_least (va_wsS RX8 54 yX8_in wsX8_in) := goodIn_app (goodIn_of _ (by decide +kernel)) ggX8_least_X8_in
set_option maxRecDepth 20000 in
theorem ggX8_least_X8_isLeast : GoodIn wsX8_least wsX8_isLeast := goodIn_r _ [9, 10, 11, 12, 13, 14, 4, 15, 16, 17, 18, 19, 20, 21, 22, 23, 24, 25, 26, 27, 28, 29, 30, 31, 32, 33, 34, 35, 36, 37, 38, 39, 40, 41, 42, 43, 44, 45, 46, 47, 48, 49, 50, 51, 52, 53] (by decide +kernel) (by decide +kernel)
set_option maxRecDepth 20000 in
theorem gX8_least_X8_isLeast : GoodIn wsX8_least (wsV RX8 169 RX8 yX8_isLeast wsX8_isLeast) := goodIn_app (goodIn_of _ (by decide +kernel)) ggX8_least_X8_isLeast
theorem dX8_least_0 : decode cX8_least 0 = .ok (.aload_n 0, 1) := by decide +kernel
theorem dX8_least_1 : decode cX8_least 1 = .ok (.iconst 0, 1) := by decide +kernel
theorem dX8_least_2 : decode cX8_least 2 = .ok (.putfield 50, 3) := by decide +kernel
theorem dX8_least_5 : decode cX8_least 5 = .ok (.iload_n 1, 1) := by decide +kernel
theorem dX8_least_6 : decode cX8_least 6 = .ok (.iconst 0, 1) := by decide +kernel
theorem dX8_least_7 : decode cX8_least 7 = .ok (.iconst 1, 1) := by decide +kernel
theorem dX8_least_8 : decode cX8_least 8 = .ok (.invokestatic 54, 3) := by decide +kernel
theorem dX8_least_11 : decode cX8_least 11 = .ok (.ifCond .ne 5, 3) := by decide +kernel
theorem dX8_least_14 : decode cX8_least 14 = .ok (.iconst (-1), 1) := by decide +kernel
theorem dX8_least_15 : decode cX8_least 15 = .ok (.ireturn, 1) := by decide +kernel
theorem dX8_least_16 : decode cX8_least 16 = .ok (.iconst 0, 1) := by decide +kernel
theorem dX8_least_17 : decode cX8_least 17 = .ok (.istore_n 2, 1) := by decide +kernel
theorem dX8_least_18 : decode cX8_least 18 = .ok (.bipush (-9), 2) := by decide +kernel
theorem dX8_least_20 : decode cX8_least 20 = .ok (.istore_n 3, 1) := by decide +kernel
theorem dX8_least_21 : decode cX8_least 21 = .ok (.iconst 0, 1) := by decide +kernel
theorem dX8_least_22 : decode cX8_least 22 = .ok (.istore 4, 2) := by decide +kernel
theorem dX8_least_24 : decode cX8_least 24 = .ok (.iload 4, 2) := by decide +kernel
theorem dX8_least_26 : decode cX8_least 26 = .ok (.sipush 128, 3) := by decide +kernel
theorem dX8_least_29 : decode cX8_least 29 = .ok (.if_icmp .ge 32, 3) := by decide +kernel
theorem dX8_least_32 : decode cX8_least 32 = .ok (.aload_n 0, 1) := by decide +kernel
theorem dX8_least_33 : decode cX8_least 33 = .ok (.iload 4, 2) := by decide +kernel
theorem dX8_least_35 : decode cX8_least 35 = .ok (.invokevirtual 169, 3) := by decide +kernel
theorem dX8_least_38 : decode cX8_least 38 = .ok (.ifCond .eq 17, 3) := by decide +kernel
theorem dX8_least_41 : decode cX8_least 41 = .ok (.iload_n 2, 1) := by decide +kernel
theorem dX8_least_42 : decode cX8_least 42 = .ok (.ifCond .ne 8, 3) := by decide +kernel
theorem dX8_least_45 : decode cX8_least 45 = .ok (.iload 4, 2) := by decide +kernel
theorem dX8_least_47 : decode cX8_least 47 = .ok (.goto 4, 3) := by decide +kernel
theorem dX8_least_50 : decode cX8_least 50 = .ok (.iload_n 3, 1) := by decide +kernel
theorem dX8_least_51 : decode cX8_least 51 = .ok (.istore_n 3, 1) := by decide +kernel
theorem dX8_least_52 : decode cX8_least 52 = .ok (.iinc 2 1, 3) := by decide +kernel
theorem dX8_least_55 : decode cX8_least 55 = .ok (.iinc 4 1, 3) := by decide +kernel
theorem dX8_least_58 : decode cX8_least 58 = .ok (.goto (-34), 3) := by decide +kernel
theorem dX8_least_61 : decode cX8_least 61 = .ok (.iload_n 1, 1) := by decide +kernel
theorem dX8_least_62 : decode cX8_least 62 = .ok (.ifCond .ne 7, 3) := by decide +kernel
theorem dX8_least_65 : decode cX8_least 65 = .ok (.iload_n 2, 1) := by decide +kernel
theorem dX8_least_66 : decode cX8_least 66 = .ok (.goto 4, 3) := by decide +kernel
theorem dX8_least_69 : decode cX8_least 69 = .ok (.iload_n 3, 1) := by decide +kernel
theorem dX8_least_70 : decode cX8_least 70 = .ok (.ireturn, 1) := by decide +kernel
set_option maxRecDepth 20000 in
theorem ggX8_dummies_X8_speaks : GoodIn wsX8_dummies wsX8_speaks := goodIn_r _ [8, 9, 33, 34, 35, 36, 37, 38, 39, 40, 41, 42, 43, 44, 45, 46, 47, 48, 49, 50, 51, 52, 53, 54, 55, 56] (by decide +kernel) (by decide +kernel)
set_option maxRecDepth 20000 in
theorem gX8_dummies_X8_speaks : GoodIn wsX8_dummies (wsV RX8 112 RX8 yX8_speaks wsX8_speaks) := goodIn_app (goodIn_of _ (by decide +kernel)) ggX8_dummies_X8_speaks
set_option maxRecDepth 20000 in
theorem ggX8_dummies_X8_decides : GoodIn wsX8_dummies wsX8_decides := goodIn_r _ [13, 3, 14, 15, 16, 7, 17, 2, 4, 5, 6, 8, 9, 18, 19, 20, 21, 22, 23, 24, 25, 26, 27, 28, 29, 30, 31, 32, 33, 34, 35, 36, 37, 38, 39, 40, 41, 42, 43, 44, 45, 46, 47, 48, 49, 50, 51, 52, 53, 54, 55, 56] (by decide +kernel) (by decide +kernel)
set_option maxRecDepth 20000 in
theorem gX8_dummies_X8_decides : GoodIn wsX8_dummies (wsV RX8 163 RX8 yX8_decides wsX8_decides) := goodIn_app (goodIn_of _ (by decide +kernel)) ggX8_dummies_X8_decides
theorem dX8_dummies_0 : decode cX8_dummies 0 = .ok (.aload_n 0, 1) := by decide +kernel
theorem dX8_dummies_1 : decode cX8_dummies 1 = .ok (.iconst 0, 1) := by decide +kernel
theorem dX8_dummies_2 : decode cX8_dummies 2 = .ok (.putfield 50, 3) := by decide +kernel
theorem dX8_dummies_5 : decode cX8_dummies 5 = .ok (.iconst 0, 1) := by decide +kernel
theorem dX8_dummies_6 : decode cX8_dummies 6 = .ok (.istore_n 1, 1) := by decide +kernel
theorem dX8_dummies_7 : decode cX8_dummies 7 = .ok (.iconst 0, 1) := by decide +kernel
theorem dX8_dummies_8 : decode cX8_dummies 8 = .ok (.istore_n 2, 1) := by decide +kernel
theorem dX8_dummies_9 : decode cX8_dummies 9 = .ok (.iload_n 2, 1) := by decide +kernel
theorem dX8_dummies_10 : decode cX8_dummies 10 = .ok (.aload_n 0, 1) := by decide +kernel
theorem dX8_dummies_11 : decode cX8_dummies 11 = .ok (.getfield 13, 3) := by decide +kernel
theorem dX8_dummies_14 : decode cX8_dummies 14 = .ok (.iconst 0, 1) := by decide +kernel
theorem dX8_dummies_15 : decode cX8_dummies 15 = .ok (.iaload, 1) := by decide +kernel
theorem dX8_dummies_16 : decode cX8_dummies 16 = .ok (.if_icmp .ge 39, 3) := by decide +kernel
theorem dX8_dummies_19 : decode cX8_dummies 19 = .ok (.iload_n 1, 1) := by decide +kernel
theorem dX8_dummies_20 : decode cX8_dummies 20 = .ok (.aload_n 0, 1) := by decide +kernel
theorem dX8_dummies_21 : decode cX8_dummies 21 = .ok (.aload_n 0, 1) := by decide +kernel
theorem dX8_dummies_22 : decode cX8_dummies 22 = .ok (.getfield 28, 3) := by decide +kernel
theorem dX8_dummies_25 : decode cX8_dummies 25 = .ok (.iload_n 2, 1) := by decide +kernel
theorem dX8_dummies_26 : decode cX8_dummies 26 = .ok (.invokevirtual 112, 3) := by decide +kernel
theorem dX8_dummies_29 : decode cX8_dummies 29 = .ok (.ifCond .eq 17, 3) := by decide +kernel
theorem dX8_dummies_32 : decode cX8_dummies 32 = .ok (.aload_n 0, 1) := by decide +kernel
theorem dX8_dummies_33 : decode cX8_dummies 33 = .ok (.iload_n 2, 1) := by decide +kernel
theorem dX8_dummies_34 : decode cX8_dummies 34 = .ok (.invokevirtual 163, 3) := by decide +kernel
theorem dX8_dummies_37 : decode cX8_dummies 37 = .ok (.ifCond .ne 9, 3) := by decide +kernel
theorem dX8_dummies_40 : decode cX8_dummies 40 = .ok (.iconst 1, 1) := by decide +kernel
theorem dX8_dummies_41 : decode cX8_dummies 41 = .ok (.iload_n 2, 1) := by decide +kernel
theorem dX8_dummies_42 : decode cX8_dummies 42 = .ok (.ishl, 1) := by decide +kernel
theorem dX8_dummies_43 : decode cX8_dummies 43 = .ok (.goto 4, 3) := by decide +kernel
theorem dX8_dummies_46 : decode cX8_dummies 46 = .ok (.iconst 0, 1) := by decide +kernel
theorem dX8_dummies_47 : decode cX8_dummies 47 = .ok (.ior, 1) := by decide +kernel
theorem dX8_dummies_48 : decode cX8_dummies 48 = .ok (.istore_n 1, 1) := by decide +kernel
theorem dX8_dummies_49 : decode cX8_dummies 49 = .ok (.iinc 2 1, 3) := by decide +kernel
theorem dX8_dummies_52 : decode cX8_dummies 52 = .ok (.goto (-43), 3) := by decide +kernel
theorem dX8_dummies_55 : decode cX8_dummies 55 = .ok (.iload_n 1, 1) := by decide +kernel
theorem dX8_dummies_56 : decode cX8_dummies 56 = .ok (.ireturn, 1) := by decide +kernel
set_option maxRecDepth 20000 in
theorem ggX8_swaysOf_X8_voices : GoodIn wsX8_swaysOf wsX8_voices := goodIn_r _ [7, 2, 8, 9, 10, 6, 11, 12, 27, 28, 29, 30, 31, 32, 33, 34, 35, 36, 37, 38, 39, 40, 41, 42, 43, 44, 45, 46, 47, 48, 49, 50] (by decide +kernel) (by decide +kernel)
set_option maxRecDepth 20000 in
theorem gX8_swaysOf_X8_voices : GoodIn wsX8_swaysOf (wsV RX8 119 RX8 yX8_voices wsX8_voices) := goodIn_app (goodIn_of _ (by decide +kernel)) ggX8_swaysOf_X8_voices
set_option maxRecDepth 20000 in
theorem ggX8_swaysOf_X8_saysYes : GoodIn wsX8_swaysOf wsX8_saysYes := goodIn_r _ [16, 2, 17, 27, 28, 29, 30, 31, 32, 33, 34, 35, 36, 37, 38, 39, 40, 41, 42, 43, 44, 45, 46, 47, 48, 49, 50] (by decide +kernel) (by decide +kernel)
set_option maxRecDepth 20000 in
theorem gX8_swaysOf_X8_saysYes : GoodIn wsX8_swaysOf (wsV RX8 123 RX8 yX8_saysYes wsX8_saysYes) := goodIn_app (goodIn_of _ (by decide +kernel)) ggX8_swaysOf_X8_saysYes
set_option maxRecDepth 20000 in
theorem ggX8_swaysOf_X8_passesBy : GoodIn wsX8_swaysOf wsX8_passesBy := goodIn_r _ [21, 22, 23, 24, 6, 25, 2, 26, 27, 28, 29, 30, 31, 32, 33, 34, 35, 36, 37, 38, 39, 40, 41, 42, 43, 44, 45, 46, 47, 48, 49, 50] (by decide +kernel) (by decide +kernel)
set_option maxRecDepth 20000 in
theorem gX8_swaysOf_X8_passesBy : GoodIn wsX8_swaysOf (wsV RX8 127 RX8 yX8_passesBy wsX8_passesBy) := goodIn_app (goodIn_of _ (by decide +kernel)) ggX8_swaysOf_X8_passesBy
theorem dX8_swaysOf_0 : decode cX8_swaysOf 0 = .ok (.aload_n 0, 1) := by decide +kernel
theorem dX8_swaysOf_1 : decode cX8_swaysOf 1 = .ok (.aload_n 0, 1) := by decide +kernel
theorem dX8_swaysOf_2 : decode cX8_swaysOf 2 = .ok (.getfield 28, 3) := by decide +kernel
theorem dX8_swaysOf_5 : decode cX8_swaysOf 5 = .ok (.invokevirtual 119, 3) := by decide +kernel
theorem dX8_swaysOf_8 : decode cX8_swaysOf 8 = .ok (.istore_n 2, 1) := by decide +kernel
theorem dX8_swaysOf_9 : decode cX8_swaysOf 9 = .ok (.aload_n 0, 1) := by decide +kernel
theorem dX8_swaysOf_10 : decode cX8_swaysOf 10 = .ok (.aload_n 0, 1) := by decide +kernel
theorem dX8_swaysOf_11 : decode cX8_swaysOf 11 = .ok (.getfield 28, 3) := by decide +kernel
theorem dX8_swaysOf_14 : decode cX8_swaysOf 14 = .ok (.iload_n 1, 1) := by decide +kernel
theorem dX8_swaysOf_15 : decode cX8_swaysOf 15 = .ok (.invokevirtual 123, 3) := by decide +kernel
theorem dX8_swaysOf_18 : decode cX8_swaysOf 18 = .ok (.istore_n 3, 1) := by decide +kernel
theorem dX8_swaysOf_19 : decode cX8_swaysOf 19 = .ok (.iconst 0, 1) := by decide +kernel
theorem dX8_swaysOf_20 : decode cX8_swaysOf 20 = .ok (.istore 4, 2) := by decide +kernel
theorem dX8_swaysOf_22 : decode cX8_swaysOf 22 = .ok (.iconst 0, 1) := by decide +kernel
theorem dX8_swaysOf_23 : decode cX8_swaysOf 23 = .ok (.istore 5, 2) := by decide +kernel
theorem dX8_swaysOf_25 : decode cX8_swaysOf 25 = .ok (.iload 5, 2) := by decide +kernel
theorem dX8_swaysOf_27 : decode cX8_swaysOf 27 = .ok (.aload_n 0, 1) := by decide +kernel
theorem dX8_swaysOf_28 : decode cX8_swaysOf 28 = .ok (.getfield 13, 3) := by decide +kernel
theorem dX8_swaysOf_31 : decode cX8_swaysOf 31 = .ok (.iconst 0, 1) := by decide +kernel
theorem dX8_swaysOf_32 : decode cX8_swaysOf 32 = .ok (.iaload, 1) := by decide +kernel
theorem dX8_swaysOf_33 : decode cX8_swaysOf 33 = .ok (.if_icmp .ge 66, 3) := by decide +kernel
theorem dX8_swaysOf_36 : decode cX8_swaysOf 36 = .ok (.iload_n 2, 1) := by decide +kernel
theorem dX8_swaysOf_37 : decode cX8_swaysOf 37 = .ok (.iload 5, 2) := by decide +kernel
theorem dX8_swaysOf_39 : decode cX8_swaysOf 39 = .ok (.ishr, 1) := by decide +kernel
theorem dX8_swaysOf_40 : decode cX8_swaysOf 40 = .ok (.iconst 1, 1) := by decide +kernel
theorem dX8_swaysOf_41 : decode cX8_swaysOf 41 = .ok (.iand, 1) := by decide +kernel
theorem dX8_swaysOf_42 : decode cX8_swaysOf 42 = .ok (.iconst 1, 1) := by decide +kernel
theorem dX8_swaysOf_43 : decode cX8_swaysOf 43 = .ok (.if_icmp .ne 29, 3) := by decide +kernel
theorem dX8_swaysOf_46 : decode cX8_swaysOf 46 = .ok (.aload_n 0, 1) := by decide +kernel
theorem dX8_swaysOf_47 : decode cX8_swaysOf 47 = .ok (.iload_n 2, 1) := by decide +kernel
theorem dX8_swaysOf_48 : decode cX8_swaysOf 48 = .ok (.iconst 1, 1) := by decide +kernel
theorem dX8_swaysOf_49 : decode cX8_swaysOf 49 = .ok (.iload 5, 2) := by decide +kernel
theorem dX8_swaysOf_51 : decode cX8_swaysOf 51 = .ok (.ishl, 1) := by decide +kernel
theorem dX8_swaysOf_52 : decode cX8_swaysOf 52 = .ok (.iconst (-1), 1) := by decide +kernel
theorem dX8_swaysOf_53 : decode cX8_swaysOf 53 = .ok (.ixor, 1) := by decide +kernel
theorem dX8_swaysOf_54 : decode cX8_swaysOf 54 = .ok (.iand, 1) := by decide +kernel
theorem dX8_swaysOf_55 : decode cX8_swaysOf 55 = .ok (.iload_n 3, 1) := by decide +kernel
theorem dX8_swaysOf_56 : decode cX8_swaysOf 56 = .ok (.invokevirtual 127, 3) := by decide +kernel
theorem dX8_swaysOf_59 : decode cX8_swaysOf 59 = .ok (.aload_n 0, 1) := by decide +kernel
theorem dX8_swaysOf_60 : decode cX8_swaysOf 60 = .ok (.iload_n 2, 1) := by decide +kernel
theorem dX8_swaysOf_61 : decode cX8_swaysOf 61 = .ok (.iload_n 3, 1) := by decide +kernel
theorem dX8_swaysOf_62 : decode cX8_swaysOf 62 = .ok (.invokevirtual 127, 3) := by decide +kernel
theorem dX8_swaysOf_65 : decode cX8_swaysOf 65 = .ok (.if_icmp .eq 7, 3) := by decide +kernel
theorem dX8_swaysOf_68 : decode cX8_swaysOf 68 = .ok (.iconst 1, 1) := by decide +kernel
theorem dX8_swaysOf_69 : decode cX8_swaysOf 69 = .ok (.goto 4, 3) := by decide +kernel
theorem dX8_swaysOf_72 : decode cX8_swaysOf 72 = .ok (.iconst 0, 1) := by decide +kernel
theorem dX8_swaysOf_73 : decode cX8_swaysOf 73 = .ok (.istore 6, 2) := by decide +kernel
theorem dX8_swaysOf_75 : decode cX8_swaysOf 75 = .ok (.iload 4, 2) := by decide +kernel
theorem dX8_swaysOf_77 : decode cX8_swaysOf 77 = .ok (.iload 6, 2) := by decide +kernel
theorem dX8_swaysOf_79 : decode cX8_swaysOf 79 = .ok (.ifCond .eq 10, 3) := by decide +kernel
theorem dX8_swaysOf_82 : decode cX8_swaysOf 82 = .ok (.iconst 1, 1) := by decide +kernel
theorem dX8_swaysOf_83 : decode cX8_swaysOf 83 = .ok (.iload 5, 2) := by decide +kernel
theorem dX8_swaysOf_85 : decode cX8_swaysOf 85 = .ok (.ishl, 1) := by decide +kernel
theorem dX8_swaysOf_86 : decode cX8_swaysOf 86 = .ok (.goto 4, 3) := by decide +kernel
theorem dX8_swaysOf_89 : decode cX8_swaysOf 89 = .ok (.iconst 0, 1) := by decide +kernel
theorem dX8_swaysOf_90 : decode cX8_swaysOf 90 = .ok (.ior, 1) := by decide +kernel
theorem dX8_swaysOf_91 : decode cX8_swaysOf 91 = .ok (.istore 4, 2) := by decide +kernel
theorem dX8_swaysOf_93 : decode cX8_swaysOf 93 = .ok (.iinc 5 1, 3) := by decide +kernel
theorem dX8_swaysOf_96 : decode cX8_swaysOf 96 = .ok (.goto (-71), 3) := by decide +kernel
theorem dX8_swaysOf_99 : decode cX8_swaysOf 99 = .ok (.iload 4, 2) := by decide +kernel
theorem dX8_swaysOf_101 : decode cX8_swaysOf 101 = .ok (.ireturn, 1) := by decide +kernel
set_option maxRecDepth 20000 in
theorem ggX8_sways_X8_isBill : GoodIn wsX8_sways wsX8_isBill := goodIn_r _ [5, 6, 7, 4, 8] (by decide +kernel) (by decide +kernel)
set_option maxRecDepth 20000 in
theorem gX8_sways_X8_isBill : GoodIn wsX8_sways (va_wsS RX8 141 yX8_isBill wsX8_isBill) := goodIn_app (goodIn_of _ (by decide +kernel)) ggX8_sways_X8_isBill
set_option maxRecDepth 20000 in
theorem ggX8_sways_X8_swaysOf : GoodIn wsX8_sways wsX8_swaysOf := goodIn_r _ [12, 13, 14, 15, 16, 17, 4, 18, 19, 20, 21, 22, 23, 24, 25, 26, 27, 28, 29, 30, 31, 32, 33, 34, 35, 36, 37, 38, 39, 40, 41, 42, 43, 44, 45, 46, 47, 48, 49, 50, 51, 52, 53, 54, 55, 56, 57, 58, 59, 60, 61] (by decide +kernel) (by decide +kernel)
set_option maxRecDepth 20000 in
theorem gX8_sways_X8_swaysOf : GoodIn wsX8_sways (wsV RX8 172 RX8 yX8_swaysOf wsX8_swaysOf) := goodIn_app (goodIn_of _ (by decide +kernel)) ggX8_sways_X8_swaysOf
theorem dX8_sways_0 : decode cX8_sways 0 = .ok (.aload_n 0, 1) := by decide +kernel
theorem dX8_sways_1 : decode cX8_sways 1 = .ok (.iconst 0, 1) := by decide +kernel
theorem dX8_sways_2 : decode cX8_sways 2 = .ok (.putfield 50, 3) := by decide +kernel
theorem dX8_sways_5 : decode cX8_sways 5 = .ok (.iload_n 1, 1) := by decide +kernel
theorem dX8_sways_6 : decode cX8_sways 6 = .ok (.invokestatic 141, 3) := by decide +kernel
theorem dX8_sways_9 : decode cX8_sways 9 = .ok (.ifCond .eq 11, 3) := by decide +kernel
theorem dX8_sways_12 : decode cX8_sways 12 = .ok (.aload_n 0, 1) := by decide +kernel
theorem dX8_sways_13 : decode cX8_sways 13 = .ok (.iload_n 1, 1) := by decide +kernel
theorem dX8_sways_14 : decode cX8_sways 14 = .ok (.invokevirtual 172, 3) := by decide +kernel
theorem dX8_sways_17 : decode cX8_sways 17 = .ok (.goto 4, 3) := by decide +kernel
theorem dX8_sways_20 : decode cX8_sways 20 = .ok (.iconst (-1), 1) := by decide +kernel
theorem dX8_sways_21 : decode cX8_sways 21 = .ok (.ireturn, 1) := by decide +kernel
set_option maxRecDepth 20000 in
theorem ggX8_free_X8_voices : GoodIn wsX8_free wsX8_voices := goodIn_r _ [7, 8, 9, 10, 11, 6, 12, 13, 32, 33, 34, 35, 36, 37, 38, 39, 40, 41, 42, 43, 44, 45, 46, 47, 48, 49, 50, 51, 52, 53, 54, 55] (by decide +kernel) (by decide +kernel)
set_option maxRecDepth 20000 in
theorem gX8_free_X8_voices : GoodIn wsX8_free (wsV RX8 119 RX8 yX8_voices wsX8_voices) := goodIn_app (goodIn_of _ (by decide +kernel)) ggX8_free_X8_voices
set_option maxRecDepth 20000 in
theorem ggX8_free_X8_swaysOf : GoodIn wsX8_free wsX8_swaysOf := goodIn_r _ [17, 2, 8, 3, 4, 5, 6, 7, 9, 10, 11, 12, 13, 18, 19, 20, 21, 22, 23, 24, 25, 26, 27, 28, 29, 30, 31, 32, 33, 34, 35, 36, 37, 38, 39, 40, 41, 42, 43, 44, 45, 46, 47, 48, 49, 50, 51, 52, 53, 54, 55] (by decide +kernel) (by decide +kernel)
set_option maxRecDepth 20000 in
theorem gX8_free_X8_swaysOf : GoodIn wsX8_free (wsV RX8 172 RX8 yX8_swaysOf wsX8_swaysOf) := goodIn_app (goodIn_of _ (by decide +kernel)) ggX8_free_X8_swaysOf
theorem dX8_free_0 : decode cX8_free 0 = .ok (.aload_n 0, 1) := by decide +kernel
theorem dX8_free_1 : decode cX8_free 1 = .ok (.iconst 0, 1) := by decide +kernel
theorem dX8_free_2 : decode cX8_free 2 = .ok (.putfield 50, 3) := by decide +kernel
theorem dX8_free_5 : decode cX8_free 5 = .ok (.aload_n 0, 1) := by decide +kernel
theorem dX8_free_6 : decode cX8_free 6 = .ok (.aload_n 0, 1) := by decide +kernel
theorem dX8_free_7 : decode cX8_free 7 = .ok (.getfield 28, 3) := by decide +kernel
theorem dX8_free_10 : decode cX8_free 10 = .ok (.invokevirtual 119, 3) := by decide +kernel
theorem dX8_free_13 : decode cX8_free 13 = .ok (.istore_n 1, 1) := by decide +kernel
theorem dX8_free_14 : decode cX8_free 14 = .ok (.iconst 0, 1) := by decide +kernel
theorem dX8_free_15 : decode cX8_free 15 = .ok (.istore_n 2, 1) := by decide +kernel
theorem dX8_free_16 : decode cX8_free 16 = .ok (.iload_n 2, 1) := by decide +kernel
theorem dX8_free_17 : decode cX8_free 17 = .ok (.iconst 5, 1) := by decide +kernel
theorem dX8_free_18 : decode cX8_free 18 = .ok (.if_icmp .ge 19, 3) := by decide +kernel
theorem dX8_free_21 : decode cX8_free 21 = .ok (.iload_n 1, 1) := by decide +kernel
theorem dX8_free_22 : decode cX8_free 22 = .ok (.aload_n 0, 1) := by decide +kernel
theorem dX8_free_23 : decode cX8_free 23 = .ok (.iload_n 2, 1) := by decide +kernel
theorem dX8_free_24 : decode cX8_free 24 = .ok (.invokevirtual 172, 3) := by decide +kernel
theorem dX8_free_27 : decode cX8_free 27 = .ok (.iconst (-1), 1) := by decide +kernel
theorem dX8_free_28 : decode cX8_free 28 = .ok (.ixor, 1) := by decide +kernel
theorem dX8_free_29 : decode cX8_free 29 = .ok (.iand, 1) := by decide +kernel
theorem dX8_free_30 : decode cX8_free 30 = .ok (.istore_n 1, 1) := by decide +kernel
theorem dX8_free_31 : decode cX8_free 31 = .ok (.iinc 2 1, 3) := by decide +kernel
theorem dX8_free_34 : decode cX8_free 34 = .ok (.goto (-18), 3) := by decide +kernel
theorem dX8_free_37 : decode cX8_free 37 = .ok (.iload_n 1, 1) := by decide +kernel
theorem dX8_free_38 : decode cX8_free 38 = .ok (.ireturn, 1) := by decide +kernel
set_option maxRecDepth 20000 in
theorem ggX8_turn_X8_isBill : GoodIn wsX8_turn wsX8_isBill := goodIn_r _ [6, 7, 8, 5, 9] (by decide +kernel) (by decide +kernel)
set_option maxRecDepth 20000 in
theorem gX8_turn_X8_isBill : GoodIn wsX8_turn (va_wsS RX8 141 yX8_isBill wsX8_isBill) := goodIn_app (goodIn_of _ (by decide +kernel)) ggX8_turn_X8_isBill
set_option maxRecDepth 20000 in
theorem ggX8_turn_X8_voices : GoodIn wsX8_turn wsX8_voices := goodIn_r _ [13, 14, 15, 16, 17, 5, 18, 19, 37, 38, 39, 40, 41, 42, 43, 44, 45, 46, 47, 48, 49, 50, 51, 52, 53, 54, 55, 56, 57, 58, 59, 60] (by decide +kernel) (by decide +kernel)
set_option maxRecDepth 20000 in
theorem gX8_turn_X8_voices : GoodIn wsX8_turn (wsV RX8 119 RX8 yX8_voices wsX8_voices) := goodIn_app (goodIn_of _ (by decide +kernel)) ggX8_turn_X8_voices
set_option maxRecDepth 20000 in
theorem ggX8_turn_X8_ones : GoodIn wsX8_turn wsX8_ones := goodIn_r _ [22] (by decide +kernel) (by decide +kernel)
set_option maxRecDepth 20000 in
theorem gX8_turn_X8_ones : GoodIn wsX8_turn (va_wsS RX8 154 yX8_ones wsX8_ones) := goodIn_app (goodIn_of _ (by decide +kernel)) ggX8_turn_X8_ones
set_option maxRecDepth 20000 in
theorem ggX8_turn_X8_saysYes : GoodIn wsX8_turn wsX8_saysYes := goodIn_r _ [26, 14, 27, 37, 38, 39, 40, 41, 42, 43, 44, 45, 46, 47, 48, 49, 50, 51, 52, 53, 54, 55, 56, 57, 58, 59, 60] (by decide +kernel) (by decide +kernel)
set_option maxRecDepth 20000 in
theorem gX8_turn_X8_saysYes : GoodIn wsX8_turn (wsV RX8 123 RX8 yX8_saysYes wsX8_saysYes) := goodIn_app (goodIn_of _ (by decide +kernel)) ggX8_turn_X8_saysYes
set_option maxRecDepth 20000 in
theorem ggX8_turn_X8_passesBy : GoodIn wsX8_turn wsX8_passesBy := goodIn_r _ [31, 32, 33, 34, 5, 35, 14, 36, 37, 38, 39, 40, 41, 42, 43, 44, 45, 46, 47, 48, 49, 50, 51, 52, 53, 54, 55, 56, 57, 58, 59, 60] (by decide +kernel) (by decide +kernel)
set_option maxRecDepth 20000 in
theorem gX8_turn_X8_passesBy : GoodIn wsX8_turn (wsV RX8 127 RX8 yX8_passesBy wsX8_passesBy) := goodIn_app (goodIn_of _ (by decide +kernel)) ggX8_turn_X8_passesBy
theorem dX8_turn_0 : decode cX8_turn 0 = .ok (.aload_n 0, 1) := by decide +kernel
theorem dX8_turn_1 : decode cX8_turn 1 = .ok (.iconst 0, 1) := by decide +kernel
theorem dX8_turn_2 : decode cX8_turn 2 = .ok (.putfield 50, 3) := by decide +kernel
theorem dX8_turn_5 : decode cX8_turn 5 = .ok (.iload_n 1, 1) := by decide +kernel
theorem dX8_turn_6 : decode cX8_turn 6 = .ok (.invokestatic 141, 3) := by decide +kernel
theorem dX8_turn_9 : decode cX8_turn 9 = .ok (.ifCond .ne 5, 3) := by decide +kernel
theorem dX8_turn_12 : decode cX8_turn 12 = .ok (.iconst (-1), 1) := by decide +kernel
theorem dX8_turn_13 : decode cX8_turn 13 = .ok (.ireturn, 1) := by decide +kernel
theorem dX8_turn_14 : decode cX8_turn 14 = .ok (.aload_n 0, 1) := by decide +kernel
theorem dX8_turn_15 : decode cX8_turn 15 = .ok (.aload_n 0, 1) := by decide +kernel
theorem dX8_turn_16 : decode cX8_turn 16 = .ok (.getfield 28, 3) := by decide +kernel
theorem dX8_turn_19 : decode cX8_turn 19 = .ok (.invokevirtual 119, 3) := by decide +kernel
theorem dX8_turn_22 : decode cX8_turn 22 = .ok (.istore_n 2, 1) := by decide +kernel
theorem dX8_turn_23 : decode cX8_turn 23 = .ok (.bipush (-9), 2) := by decide +kernel
theorem dX8_turn_25 : decode cX8_turn 25 = .ok (.istore_n 3, 1) := by decide +kernel
theorem dX8_turn_26 : decode cX8_turn 26 = .ok (.iconst 0, 1) := by decide +kernel
theorem dX8_turn_27 : decode cX8_turn 27 = .ok (.istore 4, 2) := by decide +kernel
theorem dX8_turn_29 : decode cX8_turn 29 = .ok (.iload 4, 2) := by decide +kernel
theorem dX8_turn_31 : decode cX8_turn 31 = .ok (.sipush 128, 3) := by decide +kernel
theorem dX8_turn_34 : decode cX8_turn 34 = .ok (.if_icmp .ge 75, 3) := by decide +kernel
theorem dX8_turn_37 : decode cX8_turn 37 = .ok (.iload 4, 2) := by decide +kernel
theorem dX8_turn_39 : decode cX8_turn 39 = .ok (.iload_n 2, 1) := by decide +kernel
theorem dX8_turn_40 : decode cX8_turn 40 = .ok (.iconst (-1), 1) := by decide +kernel
theorem dX8_turn_41 : decode cX8_turn 41 = .ok (.ixor, 1) := by decide +kernel
theorem dX8_turn_42 : decode cX8_turn 42 = .ok (.iand, 1) := by decide +kernel
theorem dX8_turn_43 : decode cX8_turn 43 = .ok (.ifCond .ne 25, 3) := by decide +kernel
theorem dX8_turn_46 : decode cX8_turn 46 = .ok (.iload_n 3, 1) := by decide +kernel
theorem dX8_turn_47 : decode cX8_turn 47 = .ok (.bipush (-9), 2) := by decide +kernel
theorem dX8_turn_49 : decode cX8_turn 49 = .ok (.if_icmp .eq 15, 3) := by decide +kernel
theorem dX8_turn_52 : decode cX8_turn 52 = .ok (.iload 4, 2) := by decide +kernel
theorem dX8_turn_54 : decode cX8_turn 54 = .ok (.invokestatic 154, 3) := by decide +kernel
theorem dX8_turn_57 : decode cX8_turn 57 = .ok (.iload_n 3, 1) := by decide +kernel
theorem dX8_turn_58 : decode cX8_turn 58 = .ok (.invokestatic 154, 3) := by decide +kernel
theorem dX8_turn_61 : decode cX8_turn 61 = .ok (.if_icmp .ge 7, 3) := by decide +kernel
theorem dX8_turn_64 : decode cX8_turn 64 = .ok (.iconst 1, 1) := by decide +kernel
theorem dX8_turn_65 : decode cX8_turn 65 = .ok (.goto 4, 3) := by decide +kernel
theorem dX8_turn_68 : decode cX8_turn 68 = .ok (.iconst 0, 1) := by decide +kernel
theorem dX8_turn_69 : decode cX8_turn 69 = .ok (.istore 5, 2) := by decide +kernel
theorem dX8_turn_71 : decode cX8_turn 71 = .ok (.iload 5, 2) := by decide +kernel
theorem dX8_turn_73 : decode cX8_turn 73 = .ok (.ifCond .eq 28, 3) := by decide +kernel
theorem dX8_turn_76 : decode cX8_turn 76 = .ok (.aload_n 0, 1) := by decide +kernel
theorem dX8_turn_77 : decode cX8_turn 77 = .ok (.iload_n 2, 1) := by decide +kernel
theorem dX8_turn_78 : decode cX8_turn 78 = .ok (.aload_n 0, 1) := by decide +kernel
theorem dX8_turn_79 : decode cX8_turn 79 = .ok (.aload_n 0, 1) := by decide +kernel
theorem dX8_turn_80 : decode cX8_turn 80 = .ok (.getfield 28, 3) := by decide +kernel
theorem dX8_turn_83 : decode cX8_turn 83 = .ok (.iload_n 1, 1) := by decide +kernel
theorem dX8_turn_84 : decode cX8_turn 84 = .ok (.invokevirtual 123, 3) := by decide +kernel
theorem dX8_turn_87 : decode cX8_turn 87 = .ok (.iload 4, 2) := by decide +kernel
theorem dX8_turn_89 : decode cX8_turn 89 = .ok (.ixor, 1) := by decide +kernel
theorem dX8_turn_90 : decode cX8_turn 90 = .ok (.invokevirtual 127, 3) := by decide +kernel
theorem dX8_turn_93 : decode cX8_turn 93 = .ok (.ifCond .eq 8, 3) := by decide +kernel
theorem dX8_turn_96 : decode cX8_turn 96 = .ok (.iload 4, 2) := by decide +kernel
theorem dX8_turn_98 : decode cX8_turn 98 = .ok (.goto 4, 3) := by decide +kernel
theorem dX8_turn_101 : decode cX8_turn 101 = .ok (.iload_n 3, 1) := by decide +kernel
theorem dX8_turn_102 : decode cX8_turn 102 = .ok (.istore_n 3, 1) := by decide +kernel
theorem dX8_turn_103 : decode cX8_turn 103 = .ok (.iinc 4 1, 3) := by decide +kernel
theorem dX8_turn_106 : decode cX8_turn 106 = .ok (.goto (-77), 3) := by decide +kernel
theorem dX8_turn_109 : decode cX8_turn 109 = .ok (.iload_n 3, 1) := by decide +kernel
theorem dX8_turn_110 : decode cX8_turn 110 = .ok (.ireturn, 1) := by decide +kernel
theorem dX8_asNow_0 : decode cX8_asNow 0 = .ok (.iconst 0, 1) := by decide +kernel
theorem dX8_asNow_1 : decode cX8_asNow 1 = .ok (.istore_n 1, 1) := by decide +kernel
theorem dX8_asNow_2 : decode cX8_asNow 2 = .ok (.iload_n 1, 1) := by decide +kernel
theorem dX8_asNow_3 : decode cX8_asNow 3 = .ok (.bipush 19, 2) := by decide +kernel
theorem dX8_asNow_5 : decode cX8_asNow 5 = .ok (.if_icmp .ge 21, 3) := by decide +kernel
theorem dX8_asNow_8 : decode cX8_asNow 8 = .ok (.aload_n 0, 1) := by decide +kernel
theorem dX8_asNow_9 : decode cX8_asNow 9 = .ok (.getfield 31, 3) := by decide +kernel
theorem dX8_asNow_12 : decode cX8_asNow 12 = .ok (.iload_n 1, 1) := by decide +kernel
theorem dX8_asNow_13 : decode cX8_asNow 13 = .ok (.aload_n 0, 1) := by decide +kernel
theorem dX8_asNow_14 : decode cX8_asNow 14 = .ok (.getfield 28, 3) := by decide +kernel
theorem dX8_asNow_17 : decode cX8_asNow 17 = .ok (.iload_n 1, 1) := by decide +kernel
theorem dX8_asNow_18 : decode cX8_asNow 18 = .ok (.iaload, 1) := by decide +kernel
theorem dX8_asNow_19 : decode cX8_asNow 19 = .ok (.iastore, 1) := by decide +kernel
theorem dX8_asNow_20 : decode cX8_asNow 20 = .ok (.iinc 1 1, 3) := by decide +kernel
theorem dX8_asNow_23 : decode cX8_asNow 23 = .ok (.goto (-21), 3) := by decide +kernel
theorem dX8_asNow_26 : decode cX8_asNow 26 = .ok (.return_, 1) := by decide +kernel
set_option maxRecDepth 20000 in
theorem ggX8_hand_X8_isBill : GoodIn wsX8_hand wsX8_isBill := goodIn_r _ [8, 9, 10, 7, 11] (by decide +kernel) (by decide +kernel)
set_option maxRecDepth 20000 in
theorem gX8_hand_X8_isBill : GoodIn wsX8_hand (va_wsS RX8 141 yX8_isBill wsX8_isBill) := goodIn_app (goodIn_of _ (by decide +kernel)) ggX8_hand_X8_isBill
set_option maxRecDepth 20000 in
theorem ggX8_hand_X8_heldBy : GoodIn wsX8_hand wsX8_heldBy := goodIn_r _ [15, 2, 3, 50, 51, 52, 53, 54, 55, 56, 57, 58, 59, 60, 61, 62, 63, 64, 65, 66, 67, 68, 69, 70, 71, 72, 73] (by decide +kernel) (by decide +kernel)
set_option maxRecDepth 20000 in
theorem gX8_hand_X8_heldBy : GoodIn wsX8_hand (wsV RX8 138 RX8 yX8_heldBy wsX8_heldBy) := goodIn_app (goodIn_of _ (by decide +kernel)) ggX8_hand_X8_heldBy
set_option maxRecDepth 20000 in
theorem ggX8_hand_X8_ones : GoodIn wsX8_hand wsX8_ones := goodIn_r _ [18] (by decide +kernel) (by decide +kernel)
set_option maxRecDepth 20000 in
theorem gX8_hand_X8_ones : GoodIn wsX8_hand (va_wsS RX8 154 yX8_ones wsX8_ones) := goodIn_app (goodIn_of _ (by decide +kernel)) ggX8_hand_X8_ones
set_option maxRecDepth 20000 in
theorem ggX8_hand_X8_asNow : GoodIn wsX8_hand wsX8_asNow := goodIn_r _ [22, 4, 3, 50, 51, 52, 53, 54, 55, 56, 57, 58, 59, 60, 61, 62, 63, 64, 65, 66, 67, 68, 69, 70, 71, 72, 73] (by decide +kernel) (by decide +kernel)
set_option maxRecDepth 20000 in
theorem gX8_hand_X8_asNow : GoodIn wsX8_hand (wsV RX8 175 RX8 yX8_asNow wsX8_asNow) := goodIn_app (goodIn_of _ (by decide +kernel)) ggX8_hand_X8_asNow
set_option maxRecDepth 20000 in
theorem ggX8_hand_X8_passes : GoodIn wsX8_hand wsX8_passes := goodIn_r _ [26, 27, 28, 29, 7, 30, 2, 31, 32, 33, 34, 35, 36, 37, 38, 39, 40, 41, 42, 43, 44, 45, 46, 47, 48, 49, 50, 51, 52, 53, 54, 55, 56, 57, 58, 59, 60, 61, 62, 63, 64, 65, 66, 67, 68, 69, 70, 71, 72, 73] (by decide +kernel) (by decide +kernel)
set_option maxRecDepth 20000 in
theorem gX8_hand_X8_passes : GoodIn wsX8_hand (wsV RX8 144 RX8 yX8_passes wsX8_passes) := goodIn_app (goodIn_of _ (by decide +kernel)) ggX8_hand_X8_passes
theorem dX8_hand_0 : decode cX8_hand 0 = .ok (.aload_n 0, 1) := by decide +kernel
theorem dX8_hand_1 : decode cX8_hand 1 = .ok (.iconst 0, 1) := by decide +kernel
theorem dX8_hand_2 : decode cX8_hand 2 = .ok (.putfield 50, 3) := by decide +kernel
theorem dX8_hand_5 : decode cX8_hand 5 = .ok (.iload_n 1, 1) := by decide +kernel
theorem dX8_hand_6 : decode cX8_hand 6 = .ok (.invokestatic 141, 3) := by decide +kernel
theorem dX8_hand_9 : decode cX8_hand 9 = .ok (.ifCond .ne 5, 3) := by decide +kernel
theorem dX8_hand_12 : decode cX8_hand 12 = .ok (.iconst (-1), 1) := by decide +kernel
theorem dX8_hand_13 : decode cX8_hand 13 = .ok (.ireturn, 1) := by decide +kernel
theorem dX8_hand_14 : decode cX8_hand 14 = .ok (.bipush (-9), 2) := by decide +kernel
theorem dX8_hand_16 : decode cX8_hand 16 = .ok (.istore_n 2, 1) := by decide +kernel
theorem dX8_hand_17 : decode cX8_hand 17 = .ok (.iconst 0, 1) := by decide +kernel
theorem dX8_hand_18 : decode cX8_hand 18 = .ok (.istore_n 3, 1) := by decide +kernel
theorem dX8_hand_19 : decode cX8_hand 19 = .ok (.iconst 0, 1) := by decide +kernel
theorem dX8_hand_20 : decode cX8_hand 20 = .ok (.istore 4, 2) := by decide +kernel
theorem dX8_hand_22 : decode cX8_hand 22 = .ok (.iload 4, 2) := by decide +kernel
theorem dX8_hand_24 : decode cX8_hand 24 = .ok (.aload_n 0, 1) := by decide +kernel
theorem dX8_hand_25 : decode cX8_hand 25 = .ok (.getfield 13, 3) := by decide +kernel
theorem dX8_hand_28 : decode cX8_hand 28 = .ok (.iconst 1, 1) := by decide +kernel
theorem dX8_hand_29 : decode cX8_hand 29 = .ok (.iaload, 1) := by decide +kernel
theorem dX8_hand_30 : decode cX8_hand 30 = .ok (.if_icmp .ge 62, 3) := by decide +kernel
theorem dX8_hand_33 : decode cX8_hand 33 = .ok (.aload_n 0, 1) := by decide +kernel
theorem dX8_hand_34 : decode cX8_hand 34 = .ok (.getfield 28, 3) := by decide +kernel
theorem dX8_hand_37 : decode cX8_hand 37 = .ok (.bipush 16, 2) := by decide +kernel
theorem dX8_hand_39 : decode cX8_hand 39 = .ok (.iaload, 1) := by decide +kernel
theorem dX8_hand_40 : decode cX8_hand 40 = .ok (.iload 4, 2) := by decide +kernel
theorem dX8_hand_42 : decode cX8_hand 42 = .ok (.ishr, 1) := by decide +kernel
theorem dX8_hand_43 : decode cX8_hand 43 = .ok (.iconst 1, 1) := by decide +kernel
theorem dX8_hand_44 : decode cX8_hand 44 = .ok (.iand, 1) := by decide +kernel
theorem dX8_hand_45 : decode cX8_hand 45 = .ok (.iconst 1, 1) := by decide +kernel
theorem dX8_hand_46 : decode cX8_hand 46 = .ok (.if_icmp .ne 7, 3) := by decide +kernel
theorem dX8_hand_49 : decode cX8_hand 49 = .ok (.iconst 1, 1) := by decide +kernel
theorem dX8_hand_50 : decode cX8_hand 50 = .ok (.goto 4, 3) := by decide +kernel
theorem dX8_hand_53 : decode cX8_hand 53 = .ok (.iconst 0, 1) := by decide +kernel
theorem dX8_hand_54 : decode cX8_hand 54 = .ok (.istore 5, 2) := by decide +kernel
theorem dX8_hand_56 : decode cX8_hand 56 = .ok (.iload 5, 2) := by decide +kernel
theorem dX8_hand_58 : decode cX8_hand 58 = .ok (.ifCond .eq 7, 3) := by decide +kernel
theorem dX8_hand_61 : decode cX8_hand 61 = .ok (.iload_n 2, 1) := by decide +kernel
theorem dX8_hand_62 : decode cX8_hand 62 = .ok (.goto 5, 3) := by decide +kernel
theorem dX8_hand_65 : decode cX8_hand 65 = .ok (.iload 4, 2) := by decide +kernel
theorem dX8_hand_67 : decode cX8_hand 67 = .ok (.istore_n 2, 1) := by decide +kernel
theorem dX8_hand_68 : decode cX8_hand 68 = .ok (.iload_n 3, 1) := by decide +kernel
theorem dX8_hand_69 : decode cX8_hand 69 = .ok (.iload 5, 2) := by decide +kernel
theorem dX8_hand_71 : decode cX8_hand 71 = .ok (.ifCond .eq 12, 3) := by decide +kernel
theorem dX8_hand_74 : decode cX8_hand 74 = .ok (.aload_n 0, 1) := by decide +kernel
theorem dX8_hand_75 : decode cX8_hand 75 = .ok (.iload 4, 2) := by decide +kernel
theorem dX8_hand_77 : decode cX8_hand 77 = .ok (.invokevirtual 138, 3) := by decide +kernel
theorem dX8_hand_80 : decode cX8_hand 80 = .ok (.goto 4, 3) := by decide +kernel
theorem dX8_hand_83 : decode cX8_hand 83 = .ok (.iconst 0, 1) := by decide +kernel
theorem dX8_hand_84 : decode cX8_hand 84 = .ok (.ior, 1) := by decide +kernel
theorem dX8_hand_85 : decode cX8_hand 85 = .ok (.istore_n 3, 1) := by decide +kernel
theorem dX8_hand_86 : decode cX8_hand 86 = .ok (.iinc 4 1, 3) := by decide +kernel
theorem dX8_hand_89 : decode cX8_hand 89 = .ok (.goto (-67), 3) := by decide +kernel
theorem dX8_hand_92 : decode cX8_hand 92 = .ok (.bipush (-9), 2) := by decide +kernel
theorem dX8_hand_94 : decode cX8_hand 94 = .ok (.istore 4, 2) := by decide +kernel
theorem dX8_hand_96 : decode cX8_hand 96 = .ok (.iconst 0, 1) := by decide +kernel
theorem dX8_hand_97 : decode cX8_hand 97 = .ok (.istore 5, 2) := by decide +kernel
theorem dX8_hand_99 : decode cX8_hand 99 = .ok (.iload 5, 2) := by decide +kernel
theorem dX8_hand_101 : decode cX8_hand 101 = .ok (.sipush 128, 3) := by decide +kernel
theorem dX8_hand_104 : decode cX8_hand 104 = .ok (.if_icmp .ge 144, 3) := by decide +kernel
theorem dX8_hand_107 : decode cX8_hand 107 = .ok (.iload 5, 2) := by decide +kernel
theorem dX8_hand_109 : decode cX8_hand 109 = .ok (.iload_n 3, 1) := by decide +kernel
theorem dX8_hand_110 : decode cX8_hand 110 = .ok (.iconst (-1), 1) := by decide +kernel
theorem dX8_hand_111 : decode cX8_hand 111 = .ok (.ixor, 1) := by decide +kernel
theorem dX8_hand_112 : decode cX8_hand 112 = .ok (.iand, 1) := by decide +kernel
theorem dX8_hand_113 : decode cX8_hand 113 = .ok (.ifCond .ne 38, 3) := by decide +kernel
theorem dX8_hand_116 : decode cX8_hand 116 = .ok (.iload 5, 2) := by decide +kernel
theorem dX8_hand_118 : decode cX8_hand 118 = .ok (.ifCond .eq 9, 3) := by decide +kernel
theorem dX8_hand_121 : decode cX8_hand 121 = .ok (.iload_n 2, 1) := by decide +kernel
theorem dX8_hand_122 : decode cX8_hand 122 = .ok (.bipush (-9), 2) := by decide +kernel
theorem dX8_hand_124 : decode cX8_hand 124 = .ok (.if_icmp .eq 27, 3) := by decide +kernel
theorem dX8_hand_127 : decode cX8_hand 127 = .ok (.iload 4, 2) := by decide +kernel
theorem dX8_hand_129 : decode cX8_hand 129 = .ok (.bipush (-9), 2) := by decide +kernel
theorem dX8_hand_131 : decode cX8_hand 131 = .ok (.if_icmp .eq 16, 3) := by decide +kernel
theorem dX8_hand_134 : decode cX8_hand 134 = .ok (.iload 5, 2) := by decide +kernel
theorem dX8_hand_136 : decode cX8_hand 136 = .ok (.invokestatic 154, 3) := by decide +kernel
theorem dX8_hand_139 : decode cX8_hand 139 = .ok (.iload 4, 2) := by decide +kernel
theorem dX8_hand_141 : decode cX8_hand 141 = .ok (.invokestatic 154, 3) := by decide +kernel
theorem dX8_hand_144 : decode cX8_hand 144 = .ok (.if_icmp .ge 7, 3) := by decide +kernel
theorem dX8_hand_147 : decode cX8_hand 147 = .ok (.iconst 1, 1) := by decide +kernel
theorem dX8_hand_148 : decode cX8_hand 148 = .ok (.goto 4, 3) := by decide +kernel
theorem dX8_hand_151 : decode cX8_hand 151 = .ok (.iconst 0, 1) := by decide +kernel
theorem dX8_hand_152 : decode cX8_hand 152 = .ok (.istore 6, 2) := by decide +kernel
theorem dX8_hand_154 : decode cX8_hand 154 = .ok (.aload_n 0, 1) := by decide +kernel
theorem dX8_hand_155 : decode cX8_hand 155 = .ok (.invokevirtual 175, 3) := by decide +kernel
theorem dX8_hand_158 : decode cX8_hand 158 = .ok (.iconst 0, 1) := by decide +kernel
theorem dX8_hand_159 : decode cX8_hand 159 = .ok (.istore 7, 2) := by decide +kernel
theorem dX8_hand_161 : decode cX8_hand 161 = .ok (.iload 7, 2) := by decide +kernel
theorem dX8_hand_163 : decode cX8_hand 163 = .ok (.aload_n 0, 1) := by decide +kernel
theorem dX8_hand_164 : decode cX8_hand 164 = .ok (.getfield 13, 3) := by decide +kernel
theorem dX8_hand_167 : decode cX8_hand 167 = .ok (.iconst 0, 1) := by decide +kernel
theorem dX8_hand_168 : decode cX8_hand 168 = .ok (.iaload, 1) := by decide +kernel
theorem dX8_hand_169 : decode cX8_hand 169 = .ok (.if_icmp .ge 47, 3) := by decide +kernel
theorem dX8_hand_172 : decode cX8_hand 172 = .ok (.aload_n 0, 1) := by decide +kernel
theorem dX8_hand_173 : decode cX8_hand 173 = .ok (.getfield 31, 3) := by decide +kernel
theorem dX8_hand_176 : decode cX8_hand 176 = .ok (.iconst 0, 1) := by decide +kernel
theorem dX8_hand_177 : decode cX8_hand 177 = .ok (.iload 7, 2) := by decide +kernel
theorem dX8_hand_179 : decode cX8_hand 179 = .ok (.iadd, 1) := by decide +kernel
theorem dX8_hand_180 : decode cX8_hand 180 = .ok (.iload 5, 2) := by decide +kernel
theorem dX8_hand_182 : decode cX8_hand 182 = .ok (.iload 7, 2) := by decide +kernel
theorem dX8_hand_184 : decode cX8_hand 184 = .ok (.ishr, 1) := by decide +kernel
theorem dX8_hand_185 : decode cX8_hand 185 = .ok (.iconst 1, 1) := by decide +kernel
theorem dX8_hand_186 : decode cX8_hand 186 = .ok (.iand, 1) := by decide +kernel
theorem dX8_hand_187 : decode cX8_hand 187 = .ok (.iconst 1, 1) := by decide +kernel
theorem dX8_hand_188 : decode cX8_hand 188 = .ok (.if_icmp .ne 12, 3) := by decide +kernel
theorem dX8_hand_191 : decode cX8_hand 191 = .ok (.iload 6, 2) := by decide +kernel
theorem dX8_hand_193 : decode cX8_hand 193 = .ok (.ifCond .eq 7, 3) := by decide +kernel
theorem dX8_hand_196 : decode cX8_hand 196 = .ok (.iload_n 2, 1) := by decide +kernel
theorem dX8_hand_197 : decode cX8_hand 197 = .ok (.goto 12, 3) := by decide +kernel
theorem dX8_hand_200 : decode cX8_hand 200 = .ok (.aload_n 0, 1) := by decide +kernel
theorem dX8_hand_201 : decode cX8_hand 201 = .ok (.getfield 28, 3) := by decide +kernel
theorem dX8_hand_204 : decode cX8_hand 204 = .ok (.iconst 0, 1) := by decide +kernel
theorem dX8_hand_205 : decode cX8_hand 205 = .ok (.iload 7, 2) := by decide +kernel
theorem dX8_hand_207 : decode cX8_hand 207 = .ok (.iadd, 1) := by decide +kernel
theorem dX8_hand_208 : decode cX8_hand 208 = .ok (.iaload, 1) := by decide +kernel
theorem dX8_hand_209 : decode cX8_hand 209 = .ok (.iastore, 1) := by decide +kernel
theorem dX8_hand_210 : decode cX8_hand 210 = .ok (.iinc 7 1, 3) := by decide +kernel
theorem dX8_hand_213 : decode cX8_hand 213 = .ok (.goto (-52), 3) := by decide +kernel
theorem dX8_hand_216 : decode cX8_hand 216 = .ok (.iload 6, 2) := by decide +kernel
theorem dX8_hand_218 : decode cX8_hand 218 = .ok (.ifCond .eq 20, 3) := by decide +kernel
theorem dX8_hand_221 : decode cX8_hand 221 = .ok (.aload_n 0, 1) := by decide +kernel
theorem dX8_hand_222 : decode cX8_hand 222 = .ok (.aload_n 0, 1) := by decide +kernel
theorem dX8_hand_223 : decode cX8_hand 223 = .ok (.getfield 31, 3) := by decide +kernel
theorem dX8_hand_226 : decode cX8_hand 226 = .ok (.iload_n 1, 1) := by decide +kernel
theorem dX8_hand_227 : decode cX8_hand 227 = .ok (.invokevirtual 144, 3) := by decide +kernel
theorem dX8_hand_230 : decode cX8_hand 230 = .ok (.ifCond .eq 8, 3) := by decide +kernel
theorem dX8_hand_233 : decode cX8_hand 233 = .ok (.iload 5, 2) := by decide +kernel
theorem dX8_hand_235 : decode cX8_hand 235 = .ok (.goto 5, 3) := by decide +kernel
theorem dX8_hand_238 : decode cX8_hand 238 = .ok (.iload 4, 2) := by decide +kernel
theorem dX8_hand_240 : decode cX8_hand 240 = .ok (.istore 4, 2) := by decide +kernel
theorem dX8_hand_242 : decode cX8_hand 242 = .ok (.iinc 5 1, 3) := by decide +kernel
theorem dX8_hand_245 : decode cX8_hand 245 = .ok (.goto (-146), 3) := by decide +kernel
theorem dX8_hand_248 : decode cX8_hand 248 = .ok (.iload 4, 2) := by decide +kernel
theorem dX8_hand_250 : decode cX8_hand 250 = .ok (.ireturn, 1) := by decide +kernel
set_option maxRecDepth 20000 in
theorem ggX8_swaps_X8_isBill : GoodIn wsX8_swaps wsX8_isBill := goodIn_r _ [8, 9, 10, 7, 11] (by decide +kernel) (by decide +kernel)
set_option maxRecDepth 20000 in
theorem gX8_swaps_X8_isBill : GoodIn wsX8_swaps (va_wsS RX8 141 yX8_isBill wsX8_isBill) := goodIn_app (goodIn_of _ (by decide +kernel)) ggX8_swaps_X8_isBill
set_option maxRecDepth 20000 in
theorem ggX8_swaps_X8_asNow : GoodIn wsX8_swaps wsX8_asNow := goodIn_r _ [15, 3, 4, 43, 44, 45, 46, 47, 48, 49, 50, 51, 52, 53, 54, 55, 56, 57, 58, 59, 60, 61, 62, 63, 64, 65, 66] (by decide +kernel) (by decide +kernel)
set_option maxRecDepth 20000 in
theorem gX8_swaps_X8_asNow : GoodIn wsX8_swaps (wsV RX8 175 RX8 yX8_asNow wsX8_asNow) := goodIn_app (goodIn_of _ (by decide +kernel)) ggX8_swaps_X8_asNow
set_option maxRecDepth 20000 in
theorem ggX8_swaps_X8_passes : GoodIn wsX8_swaps wsX8_passes := goodIn_r _ [19, 20, 21, 22, 7, 23, 2, 24, 25, 26, 27, 28, 29, 30, 31, 32, 33, 34, 35, 36, 37, 38, 39, 40, 41, 42, 43, 44, 45, 46, 47, 48, 49, 50, 51, 52, 53, 54, 55, 56, 57, 58, 59, 60, 61, 62, 63, 64, 65, 66] (by decide +kernel) (by decide +kernel)
set_option maxRecDepth 20000 in
theorem gX8_swaps_X8_passes : GoodIn wsX8_swaps (wsV RX8 144 RX8 yX8_passes wsX8_passes) := goodIn_app (goodIn_of _ (by decide +kernel)) ggX8_swaps_X8_passes
theorem dX8_swaps_0 : decode cX8_swaps 0 = .ok (.aload_n 0, 1) := by decide +kernel
theorem dX8_swaps_1 : decode cX8_swaps 1 = .ok (.iconst 0, 1) := by decide +kernel
theorem dX8_swaps_2 : decode cX8_swaps 2 = .ok (.putfield 50, 3) := by decide +kernel
theorem dX8_swaps_5 : decode cX8_swaps 5 = .ok (.iload_n 1, 1) := by decide +kernel
theorem dX8_swaps_6 : decode cX8_swaps 6 = .ok (.invokestatic 141, 3) := by decide +kernel
theorem dX8_swaps_9 : decode cX8_swaps 9 = .ok (.ifCond .ne 5, 3) := by decide +kernel
theorem dX8_swaps_12 : decode cX8_swaps 12 = .ok (.iconst (-1), 1) := by decide +kernel
theorem dX8_swaps_13 : decode cX8_swaps 13 = .ok (.ireturn, 1) := by decide +kernel
theorem dX8_swaps_14 : decode cX8_swaps 14 = .ok (.iconst 0, 1) := by decide +kernel
theorem dX8_swaps_15 : decode cX8_swaps 15 = .ok (.istore_n 2, 1) := by decide +kernel
theorem dX8_swaps_16 : decode cX8_swaps 16 = .ok (.iconst 0, 1) := by decide +kernel
theorem dX8_swaps_17 : decode cX8_swaps 17 = .ok (.istore_n 3, 1) := by decide +kernel
theorem dX8_swaps_18 : decode cX8_swaps 18 = .ok (.iload_n 3, 1) := by decide +kernel
theorem dX8_swaps_19 : decode cX8_swaps 19 = .ok (.aload_n 0, 1) := by decide +kernel
theorem dX8_swaps_20 : decode cX8_swaps 20 = .ok (.getfield 13, 3) := by decide +kernel
theorem dX8_swaps_23 : decode cX8_swaps 23 = .ok (.iconst 0, 1) := by decide +kernel
theorem dX8_swaps_24 : decode cX8_swaps 24 = .ok (.iaload, 1) := by decide +kernel
theorem dX8_swaps_25 : decode cX8_swaps 25 = .ok (.if_icmp .ge 111, 3) := by decide +kernel
theorem dX8_swaps_28 : decode cX8_swaps 28 = .ok (.iconst 0, 1) := by decide +kernel
theorem dX8_swaps_29 : decode cX8_swaps 29 = .ok (.istore 4, 2) := by decide +kernel
theorem dX8_swaps_31 : decode cX8_swaps 31 = .ok (.iload 4, 2) := by decide +kernel
theorem dX8_swaps_33 : decode cX8_swaps 33 = .ok (.iload_n 3, 1) := by decide +kernel
theorem dX8_swaps_34 : decode cX8_swaps 34 = .ok (.if_icmp .ge 96, 3) := by decide +kernel
theorem dX8_swaps_37 : decode cX8_swaps 37 = .ok (.aload_n 0, 1) := by decide +kernel
theorem dX8_swaps_38 : decode cX8_swaps 38 = .ok (.invokevirtual 175, 3) := by decide +kernel
theorem dX8_swaps_41 : decode cX8_swaps 41 = .ok (.aload_n 0, 1) := by decide +kernel
theorem dX8_swaps_42 : decode cX8_swaps 42 = .ok (.getfield 31, 3) := by decide +kernel
theorem dX8_swaps_45 : decode cX8_swaps 45 = .ok (.iconst 0, 1) := by decide +kernel
theorem dX8_swaps_46 : decode cX8_swaps 46 = .ok (.iload_n 3, 1) := by decide +kernel
theorem dX8_swaps_47 : decode cX8_swaps 47 = .ok (.iadd, 1) := by decide +kernel
theorem dX8_swaps_48 : decode cX8_swaps 48 = .ok (.aload_n 0, 1) := by decide +kernel
theorem dX8_swaps_49 : decode cX8_swaps 49 = .ok (.getfield 28, 3) := by decide +kernel
theorem dX8_swaps_52 : decode cX8_swaps 52 = .ok (.iconst 0, 1) := by decide +kernel
theorem dX8_swaps_53 : decode cX8_swaps 53 = .ok (.iload 4, 2) := by decide +kernel
theorem dX8_swaps_55 : decode cX8_swaps 55 = .ok (.iadd, 1) := by decide +kernel
theorem dX8_swaps_56 : decode cX8_swaps 56 = .ok (.iaload, 1) := by decide +kernel
theorem dX8_swaps_57 : decode cX8_swaps 57 = .ok (.iastore, 1) := by decide +kernel
theorem dX8_swaps_58 : decode cX8_swaps 58 = .ok (.aload_n 0, 1) := by decide +kernel
theorem dX8_swaps_59 : decode cX8_swaps 59 = .ok (.getfield 31, 3) := by decide +kernel
theorem dX8_swaps_62 : decode cX8_swaps 62 = .ok (.iconst 0, 1) := by decide +kernel
theorem dX8_swaps_63 : decode cX8_swaps 63 = .ok (.iload 4, 2) := by decide +kernel
theorem dX8_swaps_65 : decode cX8_swaps 65 = .ok (.iadd, 1) := by decide +kernel
theorem dX8_swaps_66 : decode cX8_swaps 66 = .ok (.aload_n 0, 1) := by decide +kernel
theorem dX8_swaps_67 : decode cX8_swaps 67 = .ok (.getfield 28, 3) := by decide +kernel
theorem dX8_swaps_70 : decode cX8_swaps 70 = .ok (.iconst 0, 1) := by decide +kernel
theorem dX8_swaps_71 : decode cX8_swaps 71 = .ok (.iload_n 3, 1) := by decide +kernel
theorem dX8_swaps_72 : decode cX8_swaps 72 = .ok (.iadd, 1) := by decide +kernel
theorem dX8_swaps_73 : decode cX8_swaps 73 = .ok (.iaload, 1) := by decide +kernel
theorem dX8_swaps_74 : decode cX8_swaps 74 = .ok (.iastore, 1) := by decide +kernel
theorem dX8_swaps_75 : decode cX8_swaps 75 = .ok (.iload_n 2, 1) := by decide +kernel
theorem dX8_swaps_76 : decode cX8_swaps 76 = .ok (.aload_n 0, 1) := by decide +kernel
theorem dX8_swaps_77 : decode cX8_swaps 77 = .ok (.getfield 28, 3) := by decide +kernel
theorem dX8_swaps_80 : decode cX8_swaps 80 = .ok (.iconst 0, 1) := by decide +kernel
theorem dX8_swaps_81 : decode cX8_swaps 81 = .ok (.iload_n 3, 1) := by decide +kernel
theorem dX8_swaps_82 : decode cX8_swaps 82 = .ok (.iadd, 1) := by decide +kernel
theorem dX8_swaps_83 : decode cX8_swaps 83 = .ok (.iaload, 1) := by decide +kernel
theorem dX8_swaps_84 : decode cX8_swaps 84 = .ok (.aload_n 0, 1) := by decide +kernel
theorem dX8_swaps_85 : decode cX8_swaps 85 = .ok (.getfield 28, 3) := by decide +kernel
theorem dX8_swaps_88 : decode cX8_swaps 88 = .ok (.iconst 0, 1) := by decide +kernel
theorem dX8_swaps_89 : decode cX8_swaps 89 = .ok (.iload 4, 2) := by decide +kernel
theorem dX8_swaps_91 : decode cX8_swaps 91 = .ok (.iadd, 1) := by decide +kernel
theorem dX8_swaps_92 : decode cX8_swaps 92 = .ok (.iaload, 1) := by decide +kernel
theorem dX8_swaps_93 : decode cX8_swaps 93 = .ok (.if_icmp .eq 28, 3) := by decide +kernel
theorem dX8_swaps_96 : decode cX8_swaps 96 = .ok (.aload_n 0, 1) := by decide +kernel
theorem dX8_swaps_97 : decode cX8_swaps 97 = .ok (.aload_n 0, 1) := by decide +kernel
theorem dX8_swaps_98 : decode cX8_swaps 98 = .ok (.getfield 31, 3) := by decide +kernel
theorem dX8_swaps_101 : decode cX8_swaps 101 = .ok (.iload_n 1, 1) := by decide +kernel
theorem dX8_swaps_102 : decode cX8_swaps 102 = .ok (.invokevirtual 144, 3) := by decide +kernel
theorem dX8_swaps_105 : decode cX8_swaps 105 = .ok (.aload_n 0, 1) := by decide +kernel
theorem dX8_swaps_106 : decode cX8_swaps 106 = .ok (.aload_n 0, 1) := by decide +kernel
theorem dX8_swaps_107 : decode cX8_swaps 107 = .ok (.getfield 28, 3) := by decide +kernel
theorem dX8_swaps_110 : decode cX8_swaps 110 = .ok (.iload_n 1, 1) := by decide +kernel
theorem dX8_swaps_111 : decode cX8_swaps 111 = .ok (.invokevirtual 144, 3) := by decide +kernel
theorem dX8_swaps_114 : decode cX8_swaps 114 = .ok (.if_icmp .eq 7, 3) := by decide +kernel
theorem dX8_swaps_117 : decode cX8_swaps 117 = .ok (.iconst 1, 1) := by decide +kernel
theorem dX8_swaps_118 : decode cX8_swaps 118 = .ok (.goto 4, 3) := by decide +kernel
theorem dX8_swaps_121 : decode cX8_swaps 121 = .ok (.iconst 0, 1) := by decide +kernel
theorem dX8_swaps_122 : decode cX8_swaps 122 = .ok (.iadd, 1) := by decide +kernel
theorem dX8_swaps_123 : decode cX8_swaps 123 = .ok (.istore_n 2, 1) := by decide +kernel
theorem dX8_swaps_124 : decode cX8_swaps 124 = .ok (.iinc 4 1, 3) := by decide +kernel
theorem dX8_swaps_127 : decode cX8_swaps 127 = .ok (.goto (-96), 3) := by decide +kernel
theorem dX8_swaps_130 : decode cX8_swaps 130 = .ok (.iinc 3 1, 3) := by decide +kernel
theorem dX8_swaps_133 : decode cX8_swaps 133 = .ok (.goto (-115), 3) := by decide +kernel
theorem dX8_swaps_136 : decode cX8_swaps 136 = .ok (.iload_n 2, 1) := by decide +kernel
theorem dX8_swaps_137 : decode cX8_swaps 137 = .ok (.ireturn, 1) := by decide +kernel
set_option maxRecDepth 20000 in
theorem ggX8_record_X8_isBill : GoodIn wsX8_record wsX8_isBill := goodIn_r _ [8, 9, 10, 7, 11] (by decide +kernel) (by decide +kernel)
set_option maxRecDepth 20000 in
theorem gX8_record_X8_isBill : GoodIn wsX8_record (va_wsS RX8 141 yX8_isBill wsX8_isBill) := goodIn_app (goodIn_of _ (by decide +kernel)) ggX8_record_X8_isBill
set_option maxRecDepth 20000 in
theorem ggX8_record_X8_in : GoodIn wsX8_record wsX8_in := goodIn_r _ [11] (by decide +kernel) (by decide +kernel)
set_option maxRecDepth 20000 in
theorem gX8_record_X8_in : GoodIn wsX8_record (va_wsS RX8 54 yX8_in wsX8_in) := goodIn_app (goodIn_of _ (by decide +kernel)) ggX8_record_X8_in
theorem dX8_record_0 : decode cX8_record 0 = .ok (.aload_n 0, 1) := by decide +kernel
theorem dX8_record_1 : decode cX8_record 1 = .ok (.iconst 0, 1) := by decide +kernel
theorem dX8_record_2 : decode cX8_record 2 = .ok (.putfield 50, 3) := by decide +kernel
theorem dX8_record_5 : decode cX8_record 5 = .ok (.iload_n 1, 1) := by decide +kernel
theorem dX8_record_6 : decode cX8_record 6 = .ok (.invokestatic 141, 3) := by decide +kernel
theorem dX8_record_9 : decode cX8_record 9 = .ok (.ifCond .eq 12, 3) := by decide +kernel
theorem dX8_record_12 : decode cX8_record 12 = .ok (.iload_n 2, 1) := by decide +kernel
theorem dX8_record_13 : decode cX8_record 13 = .ok (.iconst 0, 1) := by decide +kernel
theorem dX8_record_14 : decode cX8_record 14 = .ok (.iconst 1, 1) := by decide +kernel
theorem dX8_record_15 : decode cX8_record 15 = .ok (.invokestatic 54, 3) := by decide +kernel
theorem dX8_record_18 : decode cX8_record 18 = .ok (.ifCond .ne 5, 3) := by decide +kernel
theorem dX8_record_21 : decode cX8_record 21 = .ok (.iconst (-1), 1) := by decide +kernel
theorem dX8_record_22 : decode cX8_record 22 = .ok (.ireturn, 1) := by decide +kernel
theorem dX8_record_23 : decode cX8_record 23 = .ok (.aload_n 0, 1) := by decide +kernel
theorem dX8_record_24 : decode cX8_record 24 = .ok (.getfield 106, 3) := by decide +kernel
theorem dX8_record_27 : decode cX8_record 27 = .ok (.bipush 6, 2) := by decide +kernel
theorem dX8_record_29 : decode cX8_record 29 = .ok (.if_icmp .ne 6, 3) := by decide +kernel
theorem dX8_record_32 : decode cX8_record 32 = .ok (.bipush (-3), 2) := by decide +kernel
theorem dX8_record_34 : decode cX8_record 34 = .ok (.ireturn, 1) := by decide +kernel
theorem dX8_record_35 : decode cX8_record 35 = .ok (.aload_n 0, 1) := by decide +kernel
theorem dX8_record_36 : decode cX8_record 36 = .ok (.getfield 44, 3) := by decide +kernel
theorem dX8_record_39 : decode cX8_record 39 = .ok (.aload_n 0, 1) := by decide +kernel
theorem dX8_record_40 : decode cX8_record 40 = .ok (.getfield 106, 3) := by decide +kernel
theorem dX8_record_43 : decode cX8_record 43 = .ok (.iload_n 1, 1) := by decide +kernel
theorem dX8_record_44 : decode cX8_record 44 = .ok (.iastore, 1) := by decide +kernel
theorem dX8_record_45 : decode cX8_record 45 = .ok (.aload_n 0, 1) := by decide +kernel
theorem dX8_record_46 : decode cX8_record 46 = .ok (.getfield 47, 3) := by decide +kernel
theorem dX8_record_49 : decode cX8_record 49 = .ok (.aload_n 0, 1) := by decide +kernel
theorem dX8_record_50 : decode cX8_record 50 = .ok (.getfield 106, 3) := by decide +kernel
theorem dX8_record_53 : decode cX8_record 53 = .ok (.iload_n 2, 1) := by decide +kernel
theorem dX8_record_54 : decode cX8_record 54 = .ok (.iastore, 1) := by decide +kernel
theorem dX8_record_55 : decode cX8_record 55 = .ok (.aload_n 0, 1) := by decide +kernel
theorem dX8_record_56 : decode cX8_record 56 = .ok (.dup, 1) := by decide +kernel
theorem dX8_record_57 : decode cX8_record 57 = .ok (.getfield 106, 3) := by decide +kernel
theorem dX8_record_60 : decode cX8_record 60 = .ok (.iconst 1, 1) := by decide +kernel
theorem dX8_record_61 : decode cX8_record 61 = .ok (.iadd, 1) := by decide +kernel
theorem dX8_record_62 : decode cX8_record 62 = .ok (.putfield 106, 3) := by decide +kernel
theorem dX8_record_65 : decode cX8_record 65 = .ok (.aload_n 0, 1) := by decide +kernel
theorem dX8_record_66 : decode cX8_record 66 = .ok (.getfield 106, 3) := by decide +kernel
theorem dX8_record_69 : decode cX8_record 69 = .ok (.ireturn, 1) := by decide +kernel
theorem dX8_forget_0 : decode cX8_forget 0 = .ok (.aload_n 0, 1) := by decide +kernel
theorem dX8_forget_1 : decode cX8_forget 1 = .ok (.iconst 0, 1) := by decide +kernel
theorem dX8_forget_2 : decode cX8_forget 2 = .ok (.putfield 50, 3) := by decide +kernel
theorem dX8_forget_5 : decode cX8_forget 5 = .ok (.aload_n 0, 1) := by decide +kernel
theorem dX8_forget_6 : decode cX8_forget 6 = .ok (.getfield 106, 3) := by decide +kernel
theorem dX8_forget_9 : decode cX8_forget 9 = .ok (.istore_n 1, 1) := by decide +kernel
theorem dX8_forget_10 : decode cX8_forget 10 = .ok (.aload_n 0, 1) := by decide +kernel
theorem dX8_forget_11 : decode cX8_forget 11 = .ok (.iconst 0, 1) := by decide +kernel
theorem dX8_forget_12 : decode cX8_forget 12 = .ok (.putfield 106, 3) := by decide +kernel
theorem dX8_forget_15 : decode cX8_forget 15 = .ok (.iload_n 1, 1) := by decide +kernel
theorem dX8_forget_16 : decode cX8_forget 16 = .ok (.ireturn, 1) := by decide +kernel
set_option maxRecDepth 20000 in
theorem ggX8_isAsRecorded_X8_passes : GoodIn wsX8_isAsRecorded wsX8_passes := goodIn_r _ [8, 9, 10, 11, 7, 12, 13, 14, 15, 16, 17, 18, 19, 20, 21, 22, 23, 24, 25, 26, 27, 28, 29, 30, 31, 32, 33, 34, 35, 36, 37, 38, 39, 40, 41, 42, 43, 44, 45, 46, 47, 48, 49, 50, 51, 52, 53, 54, 55, 56] (by decide +kernel) (by decide +kernel)
set_option maxRecDepth 20000 in
theorem gX8_isAsRecorded_X8_passes : GoodIn wsX8_isAsRecorded (wsV RX8 144 RX8 yX8_passes wsX8_passes) := goodIn_app (goodIn_of _ (by decide +kernel)) ggX8_isAsRecorded_X8_passes
theorem dX8_isAsRecorded_0 : decode cX8_isAsRecorded 0 = .ok (.iconst 1, 1) := by decide +kernel
theorem dX8_isAsRecorded_1 : decode cX8_isAsRecorded 1 = .ok (.istore_n 2, 1) := by decide +kernel
theorem dX8_isAsRecorded_2 : decode cX8_isAsRecorded 2 = .ok (.iconst 0, 1) := by decide +kernel
theorem dX8_isAsRecorded_3 : decode cX8_isAsRecorded 3 = .ok (.istore_n 3, 1) := by decide +kernel
theorem dX8_isAsRecorded_4 : decode cX8_isAsRecorded 4 = .ok (.iload_n 3, 1) := by decide +kernel
theorem dX8_isAsRecorded_5 : decode cX8_isAsRecorded 5 = .ok (.aload_n 0, 1) := by decide +kernel
theorem dX8_isAsRecorded_6 : decode cX8_isAsRecorded 6 = .ok (.getfield 106, 3) := by decide +kernel
theorem dX8_isAsRecorded_9 : decode cX8_isAsRecorded 9 = .ok (.if_icmp .ge 48, 3) := by decide +kernel
theorem dX8_isAsRecorded_12 : decode cX8_isAsRecorded 12 = .ok (.iload_n 2, 1) := by decide +kernel
theorem dX8_isAsRecorded_13 : decode cX8_isAsRecorded 13 = .ok (.ifCond .eq 36, 3) := by decide +kernel
theorem dX8_isAsRecorded_16 : decode cX8_isAsRecorded 16 = .ok (.aload_n 0, 1) := by decide +kernel
theorem dX8_isAsRecorded_17 : decode cX8_isAsRecorded 17 = .ok (.aload_n 1, 1) := by decide +kernel
theorem dX8_isAsRecorded_18 : decode cX8_isAsRecorded 18 = .ok (.aload_n 0, 1) := by decide +kernel
theorem dX8_isAsRecorded_19 : decode cX8_isAsRecorded 19 = .ok (.getfield 44, 3) := by decide +kernel
theorem dX8_isAsRecorded_22 : decode cX8_isAsRecorded 22 = .ok (.iload_n 3, 1) := by decide +kernel
theorem dX8_isAsRecorded_23 : decode cX8_isAsRecorded 23 = .ok (.iaload, 1) := by decide +kernel
theorem dX8_isAsRecorded_24 : decode cX8_isAsRecorded 24 = .ok (.invokevirtual 144, 3) := by decide +kernel
theorem dX8_isAsRecorded_27 : decode cX8_isAsRecorded 27 = .ok (.aload_n 0, 1) := by decide +kernel
theorem dX8_isAsRecorded_28 : decode cX8_isAsRecorded 28 = .ok (.getfield 47, 3) := by decide +kernel
theorem dX8_isAsRecorded_31 : decode cX8_isAsRecorded 31 = .ok (.iload_n 3, 1) := by decide +kernel
theorem dX8_isAsRecorded_32 : decode cX8_isAsRecorded 32 = .ok (.iaload, 1) := by decide +kernel
theorem dX8_isAsRecorded_33 : decode cX8_isAsRecorded 33 = .ok (.iconst 1, 1) := by decide +kernel
theorem dX8_isAsRecorded_34 : decode cX8_isAsRecorded 34 = .ok (.if_icmp .ne 7, 3) := by decide +kernel
theorem dX8_isAsRecorded_37 : decode cX8_isAsRecorded 37 = .ok (.iconst 1, 1) := by decide +kernel
theorem dX8_isAsRecorded_38 : decode cX8_isAsRecorded 38 = .ok (.goto 4, 3) := by decide +kernel
theorem dX8_isAsRecorded_41 : decode cX8_isAsRecorded 41 = .ok (.iconst 0, 1) := by decide +kernel
theorem dX8_isAsRecorded_42 : decode cX8_isAsRecorded 42 = .ok (.if_icmp .ne 7, 3) := by decide +kernel
theorem dX8_isAsRecorded_45 : decode cX8_isAsRecorded 45 = .ok (.iconst 1, 1) := by decide +kernel
theorem dX8_isAsRecorded_46 : decode cX8_isAsRecorded 46 = .ok (.goto 4, 3) := by decide +kernel
theorem dX8_isAsRecorded_49 : decode cX8_isAsRecorded 49 = .ok (.iconst 0, 1) := by decide +kernel
theorem dX8_isAsRecorded_50 : decode cX8_isAsRecorded 50 = .ok (.istore_n 2, 1) := by decide +kernel
theorem dX8_isAsRecorded_51 : decode cX8_isAsRecorded 51 = .ok (.iinc 3 1, 3) := by decide +kernel
theorem dX8_isAsRecorded_54 : decode cX8_isAsRecorded 54 = .ok (.goto (-50), 3) := by decide +kernel
theorem dX8_isAsRecorded_57 : decode cX8_isAsRecorded 57 = .ok (.iload_n 2, 1) := by decide +kernel
theorem dX8_isAsRecorded_58 : decode cX8_isAsRecorded 58 = .ok (.ireturn, 1) := by decide +kernel
set_option maxRecDepth 20000 in
theorem ggX8_isFor_X8_isThing : GoodIn wsX8_isFor wsX8_isThing := goodIn_r _ [8, 9, 10, 11, 7, 12, 46, 47, 48, 49, 50, 51, 52, 53, 54, 55, 56, 57, 58, 59, 60, 61, 62, 63, 64, 65, 66, 67, 68, 69] (by decide +kernel) (by decide +kernel)
set_option maxRecDepth 20000 in
theorem gX8_isFor_X8_isThing : GoodIn wsX8_isFor (wsV RX8 131 RX8 yX8_isThing wsX8_isThing) := goodIn_app (goodIn_of _ (by decide +kernel)) ggX8_isFor_X8_isThing
set_option maxRecDepth 20000 in
theorem ggX8_isFor_X8_in : GoodIn wsX8_isFor wsX8_in := goodIn_r _ [12] (by decide +kernel) (by decide +kernel)
set_option maxRecDepth 20000 in
theorem gX8_isFor_X8_in : GoodIn wsX8_isFor (va_wsS RX8 54 yX8_in wsX8_in) := goodIn_app (goodIn_of _ (by decide +kernel)) ggX8_isFor_X8_in
set_option maxRecDepth 20000 in
theorem ggX8_isFor_X8_isAsRecorded : GoodIn wsX8_isFor wsX8_isAsRecorded := goodIn_r _ [16, 17, 18, 19, 20, 21, 22, 7, 23, 24, 25, 26, 27, 9, 28, 29, 30, 31, 32, 33, 34, 35, 36, 2, 37, 38, 39, 40, 41, 42, 43, 44, 45, 46, 47, 48, 49, 50, 51, 52, 53, 54, 55, 56, 57, 58, 59, 60, 61, 62, 63, 64, 65, 66, 67, 68, 69] (by decide +kernel) (by decide +kernel)
set_option maxRecDepth 20000 in
theorem gX8_isFor_X8_isAsRecorded : GoodIn wsX8_isFor (wsV RX8 178 RX8 yX8_isAsRecorded wsX8_isAsRecorded) := goodIn_app (goodIn_of _ (by decide +kernel)) ggX8_isFor_X8_isAsRecorded
theorem dX8_isFor_0 : decode cX8_isFor 0 = .ok (.aload_n 0, 1) := by decide +kernel
theorem dX8_isFor_1 : decode cX8_isFor 1 = .ok (.iconst 0, 1) := by decide +kernel
theorem dX8_isFor_2 : decode cX8_isFor 2 = .ok (.putfield 50, 3) := by decide +kernel
theorem dX8_isFor_5 : decode cX8_isFor 5 = .ok (.aload_n 0, 1) := by decide +kernel
theorem dX8_isFor_6 : decode cX8_isFor 6 = .ok (.iload_n 1, 1) := by decide +kernel
theorem dX8_isFor_7 : decode cX8_isFor 7 = .ok (.invokevirtual 131, 3) := by decide +kernel
theorem dX8_isFor_10 : decode cX8_isFor 10 = .ok (.ifCond .eq 12, 3) := by decide +kernel
theorem dX8_isFor_13 : decode cX8_isFor 13 = .ok (.iload_n 2, 1) := by decide +kernel
theorem dX8_isFor_14 : decode cX8_isFor 14 = .ok (.iconst 0, 1) := by decide +kernel
theorem dX8_isFor_15 : decode cX8_isFor 15 = .ok (.iconst 1, 1) := by decide +kernel
theorem dX8_isFor_16 : decode cX8_isFor 16 = .ok (.invokestatic 54, 3) := by decide +kernel
theorem dX8_isFor_19 : decode cX8_isFor 19 = .ok (.ifCond .ne 5, 3) := by decide +kernel
theorem dX8_isFor_22 : decode cX8_isFor 22 = .ok (.iconst (-1), 1) := by decide +kernel
theorem dX8_isFor_23 : decode cX8_isFor 23 = .ok (.ireturn, 1) := by decide +kernel
theorem dX8_isFor_24 : decode cX8_isFor 24 = .ok (.aload_n 0, 1) := by decide +kernel
theorem dX8_isFor_25 : decode cX8_isFor 25 = .ok (.getfield 22, 3) := by decide +kernel
theorem dX8_isFor_28 : decode cX8_isFor 28 = .ok (.iload_n 1, 1) := by decide +kernel
theorem dX8_isFor_29 : decode cX8_isFor 29 = .ok (.iaload, 1) := by decide +kernel
theorem dX8_isFor_30 : decode cX8_isFor 30 = .ok (.istore_n 3, 1) := by decide +kernel
theorem dX8_isFor_31 : decode cX8_isFor 31 = .ok (.iconst 0, 1) := by decide +kernel
theorem dX8_isFor_32 : decode cX8_isFor 32 = .ok (.istore 4, 2) := by decide +kernel
theorem dX8_isFor_34 : decode cX8_isFor 34 = .ok (.bipush (-9), 2) := by decide +kernel
theorem dX8_isFor_36 : decode cX8_isFor 36 = .ok (.istore 5, 2) := by decide +kernel
theorem dX8_isFor_38 : decode cX8_isFor 38 = .ok (.iconst 0, 1) := by decide +kernel
theorem dX8_isFor_39 : decode cX8_isFor 39 = .ok (.istore 6, 2) := by decide +kernel
theorem dX8_isFor_41 : decode cX8_isFor 41 = .ok (.iload 6, 2) := by decide +kernel
theorem dX8_isFor_43 : decode cX8_isFor 43 = .ok (.bipush 32, 2) := by decide +kernel
theorem dX8_isFor_45 : decode cX8_isFor 45 = .ok (.if_icmp .ge 45, 3) := by decide +kernel
theorem dX8_isFor_48 : decode cX8_isFor 48 = .ok (.aload_n 0, 1) := by decide +kernel
theorem dX8_isFor_49 : decode cX8_isFor 49 = .ok (.getfield 22, 3) := by decide +kernel
theorem dX8_isFor_52 : decode cX8_isFor 52 = .ok (.iload_n 1, 1) := by decide +kernel
theorem dX8_isFor_53 : decode cX8_isFor 53 = .ok (.iload 6, 2) := by decide +kernel
theorem dX8_isFor_55 : decode cX8_isFor 55 = .ok (.iastore, 1) := by decide +kernel
theorem dX8_isFor_56 : decode cX8_isFor 56 = .ok (.aload_n 0, 1) := by decide +kernel
theorem dX8_isFor_57 : decode cX8_isFor 57 = .ok (.aload_n 0, 1) := by decide +kernel
theorem dX8_isFor_58 : decode cX8_isFor 58 = .ok (.getfield 28, 3) := by decide +kernel
theorem dX8_isFor_61 : decode cX8_isFor 61 = .ok (.invokevirtual 178, 3) := by decide +kernel
theorem dX8_isFor_64 : decode cX8_isFor 64 = .ok (.ifCond .eq 20, 3) := by decide +kernel
theorem dX8_isFor_67 : decode cX8_isFor 67 = .ok (.iload 4, 2) := by decide +kernel
theorem dX8_isFor_69 : decode cX8_isFor 69 = .ok (.ifCond .ne 8, 3) := by decide +kernel
theorem dX8_isFor_72 : decode cX8_isFor 72 = .ok (.iload 6, 2) := by decide +kernel
theorem dX8_isFor_74 : decode cX8_isFor 74 = .ok (.goto 5, 3) := by decide +kernel
theorem dX8_isFor_77 : decode cX8_isFor 77 = .ok (.iload 5, 2) := by decide +kernel
theorem dX8_isFor_79 : decode cX8_isFor 79 = .ok (.istore 5, 2) := by decide +kernel
theorem dX8_isFor_81 : decode cX8_isFor 81 = .ok (.iinc 4 1, 3) := by decide +kernel
theorem dX8_isFor_84 : decode cX8_isFor 84 = .ok (.iinc 6 1, 3) := by decide +kernel
theorem dX8_isFor_87 : decode cX8_isFor 87 = .ok (.goto (-46), 3) := by decide +kernel
theorem dX8_isFor_90 : decode cX8_isFor 90 = .ok (.aload_n 0, 1) := by decide +kernel
theorem dX8_isFor_91 : decode cX8_isFor 91 = .ok (.getfield 22, 3) := by decide +kernel
theorem dX8_isFor_94 : decode cX8_isFor 94 = .ok (.iload_n 1, 1) := by decide +kernel
theorem dX8_isFor_95 : decode cX8_isFor 95 = .ok (.iload_n 3, 1) := by decide +kernel
theorem dX8_isFor_96 : decode cX8_isFor 96 = .ok (.iastore, 1) := by decide +kernel
theorem dX8_isFor_97 : decode cX8_isFor 97 = .ok (.iload_n 2, 1) := by decide +kernel
theorem dX8_isFor_98 : decode cX8_isFor 98 = .ok (.ifCond .ne 8, 3) := by decide +kernel
theorem dX8_isFor_101 : decode cX8_isFor 101 = .ok (.iload 4, 2) := by decide +kernel
theorem dX8_isFor_103 : decode cX8_isFor 103 = .ok (.goto 5, 3) := by decide +kernel
theorem dX8_isFor_106 : decode cX8_isFor 106 = .ok (.iload 5, 2) := by decide +kernel
theorem dX8_isFor_108 : decode cX8_isFor 108 = .ok (.ireturn, 1) := by decide +kernel
set_option maxRecDepth 20000 in
theorem ggX8_who_X8_asNow : GoodIn wsX8_who wsX8_asNow := goodIn_r _ [8, 2, 9, 44, 45, 46, 47, 48, 49, 50, 51, 52, 53, 54, 55, 56, 57, 58, 59, 60, 61, 62, 63, 64, 65, 66, 67] (by decide +kernel) (by decide +kernel)
set_option maxRecDepth 20000 in
theorem gX8_who_X8_asNow : GoodIn wsX8_who (wsV RX8 175 RX8 yX8_asNow wsX8_asNow) := goodIn_app (goodIn_of _ (by decide +kernel)) ggX8_who_X8_asNow
set_option maxRecDepth 20000 in
theorem ggX8_who_X8_isAsRecorded : GoodIn wsX8_who wsX8_isAsRecorded := goodIn_r _ [13, 14, 15, 16, 17, 18, 19, 7, 20, 21, 22, 23, 24, 3, 25, 26, 27, 28, 29, 30, 31, 32, 33, 34, 35, 36, 37, 38, 39, 40, 41, 42, 43, 44, 45, 46, 47, 48, 49, 50, 51, 52, 53, 54, 55, 56, 57, 58, 59, 60, 61, 62, 63, 64, 65, 66, 67] (by decide +kernel) (by decide +kernel)
set_option maxRecDepth 20000 in
theorem gX8_who_X8_isAsRecorded : GoodIn wsX8_who (wsV RX8 178 RX8 yX8_isAsRecorded wsX8_isAsRecorded) := goodIn_app (goodIn_of _ (by decide +kernel)) ggX8_who_X8_isAsRecorded
theorem dX8_who_0 : decode cX8_who 0 = .ok (.aload_n 0, 1) := by decide +kernel
theorem dX8_who_1 : decode cX8_who 1 = .ok (.iconst 0, 1) := by decide +kernel
theorem dX8_who_2 : decode cX8_who 2 = .ok (.putfield 50, 3) := by decide +kernel
theorem dX8_who_5 : decode cX8_who 5 = .ok (.aload_n 0, 1) := by decide +kernel
theorem dX8_who_6 : decode cX8_who 6 = .ok (.invokevirtual 175, 3) := by decide +kernel
theorem dX8_who_9 : decode cX8_who 9 = .ok (.aload_n 0, 1) := by decide +kernel
theorem dX8_who_10 : decode cX8_who 10 = .ok (.getfield 31, 3) := by decide +kernel
theorem dX8_who_13 : decode cX8_who 13 = .ok (.bipush 16, 2) := by decide +kernel
theorem dX8_who_15 : decode cX8_who 15 = .ok (.iconst 0, 1) := by decide +kernel
theorem dX8_who_16 : decode cX8_who 16 = .ok (.iastore, 1) := by decide +kernel
theorem dX8_who_17 : decode cX8_who 17 = .ok (.aload_n 0, 1) := by decide +kernel
theorem dX8_who_18 : decode cX8_who 18 = .ok (.aload_n 0, 1) := by decide +kernel
theorem dX8_who_19 : decode cX8_who 19 = .ok (.getfield 31, 3) := by decide +kernel
theorem dX8_who_22 : decode cX8_who 22 = .ok (.invokevirtual 178, 3) := by decide +kernel
theorem dX8_who_25 : decode cX8_who 25 = .ok (.ifCond .eq 8, 3) := by decide +kernel
theorem dX8_who_28 : decode cX8_who 28 = .ok (.bipush 32, 2) := by decide +kernel
theorem dX8_who_30 : decode cX8_who 30 = .ok (.goto 4, 3) := by decide +kernel
theorem dX8_who_33 : decode cX8_who 33 = .ok (.iconst 0, 1) := by decide +kernel
theorem dX8_who_34 : decode cX8_who 34 = .ok (.istore_n 1, 1) := by decide +kernel
theorem dX8_who_35 : decode cX8_who 35 = .ok (.iconst 0, 1) := by decide +kernel
theorem dX8_who_36 : decode cX8_who 36 = .ok (.istore_n 2, 1) := by decide +kernel
theorem dX8_who_37 : decode cX8_who 37 = .ok (.iload_n 2, 1) := by decide +kernel
theorem dX8_who_38 : decode cX8_who 38 = .ok (.aload_n 0, 1) := by decide +kernel
theorem dX8_who_39 : decode cX8_who 39 = .ok (.getfield 13, 3) := by decide +kernel
theorem dX8_who_42 : decode cX8_who 42 = .ok (.iconst 1, 1) := by decide +kernel
theorem dX8_who_43 : decode cX8_who 43 = .ok (.iaload, 1) := by decide +kernel
theorem dX8_who_44 : decode cX8_who 44 = .ok (.if_icmp .ge 40, 3) := by decide +kernel
theorem dX8_who_47 : decode cX8_who 47 = .ok (.aload_n 0, 1) := by decide +kernel
theorem dX8_who_48 : decode cX8_who 48 = .ok (.getfield 31, 3) := by decide +kernel
theorem dX8_who_51 : decode cX8_who 51 = .ok (.bipush 16, 2) := by decide +kernel
theorem dX8_who_53 : decode cX8_who 53 = .ok (.iconst 1, 1) := by decide +kernel
theorem dX8_who_54 : decode cX8_who 54 = .ok (.iload_n 2, 1) := by decide +kernel
theorem dX8_who_55 : decode cX8_who 55 = .ok (.ishl, 1) := by decide +kernel
theorem dX8_who_56 : decode cX8_who 56 = .ok (.iastore, 1) := by decide +kernel
theorem dX8_who_57 : decode cX8_who 57 = .ok (.iload_n 1, 1) := by decide +kernel
theorem dX8_who_58 : decode cX8_who 58 = .ok (.aload_n 0, 1) := by decide +kernel
theorem dX8_who_59 : decode cX8_who 59 = .ok (.aload_n 0, 1) := by decide +kernel
theorem dX8_who_60 : decode cX8_who 60 = .ok (.getfield 31, 3) := by decide +kernel
theorem dX8_who_63 : decode cX8_who 63 = .ok (.invokevirtual 178, 3) := by decide +kernel
theorem dX8_who_66 : decode cX8_who 66 = .ok (.ifCond .eq 9, 3) := by decide +kernel
theorem dX8_who_69 : decode cX8_who 69 = .ok (.iconst 1, 1) := by decide +kernel
theorem dX8_who_70 : decode cX8_who 70 = .ok (.iload_n 2, 1) := by decide +kernel
theorem dX8_who_71 : decode cX8_who 71 = .ok (.ishl, 1) := by decide +kernel
theorem dX8_who_72 : decode cX8_who 72 = .ok (.goto 4, 3) := by decide +kernel
theorem dX8_who_75 : decode cX8_who 75 = .ok (.iconst 0, 1) := by decide +kernel
theorem dX8_who_76 : decode cX8_who 76 = .ok (.ior, 1) := by decide +kernel
theorem dX8_who_77 : decode cX8_who 77 = .ok (.istore_n 1, 1) := by decide +kernel
theorem dX8_who_78 : decode cX8_who 78 = .ok (.iinc 2 1, 3) := by decide +kernel
theorem dX8_who_81 : decode cX8_who 81 = .ok (.goto (-44), 3) := by decide +kernel
theorem dX8_who_84 : decode cX8_who 84 = .ok (.iload_n 1, 1) := by decide +kernel
theorem dX8_who_85 : decode cX8_who 85 = .ok (.ireturn, 1) := by decide +kernel
set_option maxRecDepth 20000 in
theorem ggX8_odds_X8_isBill : GoodIn wsX8_odds wsX8_isBill := goodIn_r _ [7, 8, 9, 6, 10] (by decide +kernel) (by decide +kernel)
set_option maxRecDepth 20000 in
theorem gX8_odds_X8_isBill : GoodIn wsX8_odds (va_wsS RX8 141 yX8_isBill wsX8_isBill) := goodIn_app (goodIn_of _ (by decide +kernel)) ggX8_odds_X8_isBill
set_option maxRecDepth 20000 in
theorem ggX8_odds_X8_in : GoodIn wsX8_odds wsX8_in := goodIn_r _ [10] (by decide +kernel) (by decide +kernel)
set_option maxRecDepth 20000 in
theorem gX8_odds_X8_in : GoodIn wsX8_odds (va_wsS RX8 54 yX8_in wsX8_in) := goodIn_app (goodIn_of _ (by decide +kernel)) ggX8_odds_X8_in
set_option maxRecDepth 20000 in
theorem ggX8_odds_X8_asNow : GoodIn wsX8_odds wsX8_asNow := goodIn_r _ [14, 3, 15, 46, 47, 48, 49, 50, 51, 52, 53, 54, 55, 56, 57, 58, 59, 60, 61, 62, 63, 64, 65, 66, 67, 68, 69] (by decide +kernel) (by decide +kernel)
set_option maxRecDepth 20000 in
theorem gX8_odds_X8_asNow : GoodIn wsX8_odds (wsV RX8 175 RX8 yX8_asNow wsX8_asNow) := goodIn_app (goodIn_of _ (by decide +kernel)) ggX8_odds_X8_asNow
set_option maxRecDepth 20000 in
theorem ggX8_odds_X8_passes : GoodIn wsX8_odds wsX8_passes := goodIn_r _ [19, 20, 21, 22, 6, 23, 2, 24, 25, 26, 27, 28, 29, 30, 31, 32, 33, 34, 35, 36, 37, 38, 39, 40, 41, 42, 46, 47, 48, 49, 50, 51, 52, 53, 54, 55, 56, 57, 58, 59, 60, 61, 62, 63, 64, 65, 66, 67, 68, 69] (by decide +kernel) (by decide +kernel)
set_option maxRecDepth 20000 in
theorem gX8_odds_X8_passes : GoodIn wsX8_odds (wsV RX8 144 RX8 yX8_passes wsX8_passes) := goodIn_app (goodIn_of _ (by decide +kernel)) ggX8_odds_X8_passes
set_option maxRecDepth 20000 in
theorem ggX8_odds_X8_gcd : GoodIn wsX8_odds wsX8_gcd := goodIn_r _ [45] (by decide +kernel) (by decide +kernel)
set_option maxRecDepth 20000 in
theorem gX8_odds_X8_gcd : GoodIn wsX8_odds (va_wsS RX8 166 yX8_gcd wsX8_gcd) := goodIn_app (goodIn_of _ (by decide +kernel)) ggX8_odds_X8_gcd
theorem dX8_odds_0 : decode cX8_odds 0 = .ok (.aload_n 0, 1) := by decide +kernel
theorem dX8_odds_1 : decode cX8_odds 1 = .ok (.iconst 0, 1) := by decide +kernel
theorem dX8_odds_2 : decode cX8_odds 2 = .ok (.putfield 50, 3) := by decide +kernel
theorem dX8_odds_5 : decode cX8_odds 5 = .ok (.iload_n 1, 1) := by decide +kernel
theorem dX8_odds_6 : decode cX8_odds 6 = .ok (.invokestatic 141, 3) := by decide +kernel
theorem dX8_odds_9 : decode cX8_odds 9 = .ok (.ifCond .eq 22, 3) := by decide +kernel
theorem dX8_odds_12 : decode cX8_odds 12 = .ok (.iload_n 2, 1) := by decide +kernel
theorem dX8_odds_13 : decode cX8_odds 13 = .ok (.iconst 0, 1) := by decide +kernel
theorem dX8_odds_14 : decode cX8_odds 14 = .ok (.bipush 10, 2) := by decide +kernel
theorem dX8_odds_16 : decode cX8_odds 16 = .ok (.invokestatic 54, 3) := by decide +kernel
theorem dX8_odds_19 : decode cX8_odds 19 = .ok (.ifCond .eq 12, 3) := by decide +kernel
theorem dX8_odds_22 : decode cX8_odds 22 = .ok (.iload_n 3, 1) := by decide +kernel
theorem dX8_odds_23 : decode cX8_odds 23 = .ok (.iconst 0, 1) := by decide +kernel
theorem dX8_odds_24 : decode cX8_odds 24 = .ok (.iconst 1, 1) := by decide +kernel
theorem dX8_odds_25 : decode cX8_odds 25 = .ok (.invokestatic 54, 3) := by decide +kernel
theorem dX8_odds_28 : decode cX8_odds 28 = .ok (.ifCond .ne 5, 3) := by decide +kernel
theorem dX8_odds_31 : decode cX8_odds 31 = .ok (.iconst (-1), 1) := by decide +kernel
theorem dX8_odds_32 : decode cX8_odds 32 = .ok (.ireturn, 1) := by decide +kernel
theorem dX8_odds_33 : decode cX8_odds 33 = .ok (.iconst 0, 1) := by decide +kernel
theorem dX8_odds_34 : decode cX8_odds 34 = .ok (.istore 4, 2) := by decide +kernel
theorem dX8_odds_36 : decode cX8_odds 36 = .ok (.iconst 1, 1) := by decide +kernel
theorem dX8_odds_37 : decode cX8_odds 37 = .ok (.istore 5, 2) := by decide +kernel
theorem dX8_odds_39 : decode cX8_odds 39 = .ok (.iconst 0, 1) := by decide +kernel
theorem dX8_odds_40 : decode cX8_odds 40 = .ok (.istore 6, 2) := by decide +kernel
theorem dX8_odds_42 : decode cX8_odds 42 = .ok (.iload 6, 2) := by decide +kernel
theorem dX8_odds_44 : decode cX8_odds 44 = .ok (.aload_n 0, 1) := by decide +kernel
theorem dX8_odds_45 : decode cX8_odds 45 = .ok (.getfield 13, 3) := by decide +kernel
theorem dX8_odds_48 : decode cX8_odds 48 = .ok (.iconst 1, 1) := by decide +kernel
theorem dX8_odds_49 : decode cX8_odds 49 = .ok (.iaload, 1) := by decide +kernel
theorem dX8_odds_50 : decode cX8_odds 50 = .ok (.if_icmp .ge 16, 3) := by decide +kernel
theorem dX8_odds_53 : decode cX8_odds 53 = .ok (.iload 5, 2) := by decide +kernel
theorem dX8_odds_55 : decode cX8_odds 55 = .ok (.bipush 10, 2) := by decide +kernel
theorem dX8_odds_57 : decode cX8_odds 57 = .ok (.imul, 1) := by decide +kernel
theorem dX8_odds_58 : decode cX8_odds 58 = .ok (.istore 5, 2) := by decide +kernel
theorem dX8_odds_60 : decode cX8_odds 60 = .ok (.iinc 6 1, 3) := by decide +kernel
theorem dX8_odds_63 : decode cX8_odds 63 = .ok (.goto (-21), 3) := by decide +kernel
theorem dX8_odds_66 : decode cX8_odds 66 = .ok (.aload_n 0, 1) := by decide +kernel
theorem dX8_odds_67 : decode cX8_odds 67 = .ok (.invokevirtual 175, 3) := by decide +kernel
theorem dX8_odds_70 : decode cX8_odds 70 = .ok (.iconst 0, 1) := by decide +kernel
theorem dX8_odds_71 : decode cX8_odds 71 = .ok (.istore 6, 2) := by decide +kernel
theorem dX8_odds_73 : decode cX8_odds 73 = .ok (.iload 6, 2) := by decide +kernel
theorem dX8_odds_75 : decode cX8_odds 75 = .ok (.iconst 1, 1) := by decide +kernel
theorem dX8_odds_76 : decode cX8_odds 76 = .ok (.aload_n 0, 1) := by decide +kernel
theorem dX8_odds_77 : decode cX8_odds 77 = .ok (.getfield 13, 3) := by decide +kernel
theorem dX8_odds_80 : decode cX8_odds 80 = .ok (.iconst 1, 1) := by decide +kernel
theorem dX8_odds_81 : decode cX8_odds 81 = .ok (.iaload, 1) := by decide +kernel
theorem dX8_odds_82 : decode cX8_odds 82 = .ok (.ishl, 1) := by decide +kernel
theorem dX8_odds_83 : decode cX8_odds 83 = .ok (.if_icmp .ge 88, 3) := by decide +kernel
theorem dX8_odds_86 : decode cX8_odds 86 = .ok (.iconst 1, 1) := by decide +kernel
theorem dX8_odds_87 : decode cX8_odds 87 = .ok (.istore 7, 2) := by decide +kernel
theorem dX8_odds_89 : decode cX8_odds 89 = .ok (.iconst 0, 1) := by decide +kernel
theorem dX8_odds_90 : decode cX8_odds 90 = .ok (.istore 8, 2) := by decide +kernel
theorem dX8_odds_92 : decode cX8_odds 92 = .ok (.iload 8, 2) := by decide +kernel
theorem dX8_odds_94 : decode cX8_odds 94 = .ok (.aload_n 0, 1) := by decide +kernel
theorem dX8_odds_95 : decode cX8_odds 95 = .ok (.getfield 13, 3) := by decide +kernel
theorem dX8_odds_98 : decode cX8_odds 98 = .ok (.iconst 1, 1) := by decide +kernel
theorem dX8_odds_99 : decode cX8_odds 99 = .ok (.iaload, 1) := by decide +kernel
theorem dX8_odds_100 : decode cX8_odds 100 = .ok (.if_icmp .ge 33, 3) := by decide +kernel
theorem dX8_odds_103 : decode cX8_odds 103 = .ok (.iload 7, 2) := by decide +kernel
theorem dX8_odds_105 : decode cX8_odds 105 = .ok (.iload 6, 2) := by decide +kernel
theorem dX8_odds_107 : decode cX8_odds 107 = .ok (.iload 8, 2) := by decide +kernel
theorem dX8_odds_109 : decode cX8_odds 109 = .ok (.ishr, 1) := by decide +kernel
theorem dX8_odds_110 : decode cX8_odds 110 = .ok (.iconst 1, 1) := by decide +kernel
theorem dX8_odds_111 : decode cX8_odds 111 = .ok (.iand, 1) := by decide +kernel
theorem dX8_odds_112 : decode cX8_odds 112 = .ok (.iconst 1, 1) := by decide +kernel
theorem dX8_odds_113 : decode cX8_odds 113 = .ok (.if_icmp .ne 7, 3) := by decide +kernel
theorem dX8_odds_116 : decode cX8_odds 116 = .ok (.iload_n 2, 1) := by decide +kernel
theorem dX8_odds_117 : decode cX8_odds 117 = .ok (.goto 7, 3) := by decide +kernel
theorem dX8_odds_120 : decode cX8_odds 120 = .ok (.bipush 10, 2) := by decide +kernel
theorem dX8_odds_122 : decode cX8_odds 122 = .ok (.iload_n 2, 1) := by decide +kernel
theorem dX8_odds_123 : decode cX8_odds 123 = .ok (.isub, 1) := by decide +kernel
theorem dX8_odds_124 : decode cX8_odds 124 = .ok (.imul, 1) := by decide +kernel
theorem dX8_odds_125 : decode cX8_odds 125 = .ok (.istore 7, 2) := by decide +kernel
theorem dX8_odds_127 : decode cX8_odds 127 = .ok (.iinc 8 1, 3) := by decide +kernel
theorem dX8_odds_130 : decode cX8_odds 130 = .ok (.goto (-38), 3) := by decide +kernel
theorem dX8_odds_133 : decode cX8_odds 133 = .ok (.aload_n 0, 1) := by decide +kernel
theorem dX8_odds_134 : decode cX8_odds 134 = .ok (.getfield 31, 3) := by decide +kernel
theorem dX8_odds_137 : decode cX8_odds 137 = .ok (.bipush 16, 2) := by decide +kernel
theorem dX8_odds_139 : decode cX8_odds 139 = .ok (.iload 6, 2) := by decide +kernel
theorem dX8_odds_141 : decode cX8_odds 141 = .ok (.iastore, 1) := by decide +kernel
theorem dX8_odds_142 : decode cX8_odds 142 = .ok (.iload 4, 2) := by decide +kernel
theorem dX8_odds_144 : decode cX8_odds 144 = .ok (.aload_n 0, 1) := by decide +kernel
theorem dX8_odds_145 : decode cX8_odds 145 = .ok (.aload_n 0, 1) := by decide +kernel
theorem dX8_odds_146 : decode cX8_odds 146 = .ok (.getfield 31, 3) := by decide +kernel
theorem dX8_odds_149 : decode cX8_odds 149 = .ok (.iload_n 1, 1) := by decide +kernel
theorem dX8_odds_150 : decode cX8_odds 150 = .ok (.invokevirtual 144, 3) := by decide +kernel
theorem dX8_odds_153 : decode cX8_odds 153 = .ok (.ifCond .eq 8, 3) := by decide +kernel
theorem dX8_odds_156 : decode cX8_odds 156 = .ok (.iload 7, 2) := by decide +kernel
theorem dX8_odds_158 : decode cX8_odds 158 = .ok (.goto 4, 3) := by decide +kernel
theorem dX8_odds_161 : decode cX8_odds 161 = .ok (.iconst 0, 1) := by decide +kernel
theorem dX8_odds_162 : decode cX8_odds 162 = .ok (.iadd, 1) := by decide +kernel
theorem dX8_odds_163 : decode cX8_odds 163 = .ok (.istore 4, 2) := by decide +kernel
theorem dX8_odds_165 : decode cX8_odds 165 = .ok (.iinc 6 1, 3) := by decide +kernel
theorem dX8_odds_168 : decode cX8_odds 168 = .ok (.goto (-95), 3) := by decide +kernel
theorem dX8_odds_171 : decode cX8_odds 171 = .ok (.iload 4, 2) := by decide +kernel
theorem dX8_odds_173 : decode cX8_odds 173 = .ok (.iload 5, 2) := by decide +kernel
theorem dX8_odds_175 : decode cX8_odds 175 = .ok (.invokestatic 166, 3) := by decide +kernel
theorem dX8_odds_178 : decode cX8_odds 178 = .ok (.istore 6, 2) := by decide +kernel
theorem dX8_odds_180 : decode cX8_odds 180 = .ok (.iload_n 3, 1) := by decide +kernel
theorem dX8_odds_181 : decode cX8_odds 181 = .ok (.ifCond .ne 11, 3) := by decide +kernel
theorem dX8_odds_184 : decode cX8_odds 184 = .ok (.iload 4, 2) := by decide +kernel
theorem dX8_odds_186 : decode cX8_odds 186 = .ok (.iload 6, 2) := by decide +kernel
theorem dX8_odds_188 : decode cX8_odds 188 = .ok (.idiv, 1) := by decide +kernel
theorem dX8_odds_189 : decode cX8_odds 189 = .ok (.goto 8, 3) := by decide +kernel
theorem dX8_odds_192 : decode cX8_odds 192 = .ok (.iload 5, 2) := by decide +kernel
theorem dX8_odds_194 : decode cX8_odds 194 = .ok (.iload 6, 2) := by decide +kernel
theorem dX8_odds_196 : decode cX8_odds 196 = .ok (.idiv, 1) := by decide +kernel
theorem dX8_odds_197 : decode cX8_odds 197 = .ok (.ireturn, 1) := by decide +kernel
set_option maxRecDepth 20000 in
theorem ggX8_rate_X8_in : GoodIn wsX8_rate wsX8_in := goodIn_r _ [15] (by decide +kernel) (by decide +kernel)
set_option maxRecDepth 20000 in
theorem gX8_rate_X8_in : GoodIn wsX8_rate (va_wsS RX8 54 yX8_in wsX8_in) := goodIn_app (goodIn_of _ (by decide +kernel)) ggX8_rate_X8_in
set_option maxRecDepth 20000 in
theorem ggX8_rate_X8_isThing : GoodIn wsX8_rate wsX8_isThing := goodIn_r _ [19, 20, 12, 13, 14, 15, 24, 25, 26, 27, 28, 29, 30, 31, 32, 33, 34, 35, 36, 37, 38, 39, 40, 41, 42, 43, 44, 45, 46, 47] (by decide +kernel) (by decide +kernel)
set_option maxRecDepth 20000 in
theorem gX8_rate_X8_isThing : GoodIn wsX8_rate (wsV RX8 131 RX8 yX8_isThing wsX8_isThing) := goodIn_app (goodIn_of _ (by decide +kernel)) ggX8_rate_X8_isThing
set_option maxRecDepth 20000 in
theorem ggX8_rate_X8_ones : GoodIn wsX8_rate wsX8_ones := goodIn_r _ [23] (by decide +kernel) (by decide +kernel)
set_option maxRecDepth 20000 in
theorem gX8_rate_X8_ones : GoodIn wsX8_rate (va_wsS RX8 154 yX8_ones wsX8_ones) := goodIn_app (goodIn_of _ (by decide +kernel)) ggX8_rate_X8_ones
theorem dX8_rate_0 : decode cX8_rate 0 = .ok (.aload_n 0, 1) := by decide +kernel
theorem dX8_rate_1 : decode cX8_rate 1 = .ok (.iconst 0, 1) := by decide +kernel
theorem dX8_rate_2 : decode cX8_rate 2 = .ok (.putfield 50, 3) := by decide +kernel
theorem dX8_rate_5 : decode cX8_rate 5 = .ok (.iload_n 1, 1) := by decide +kernel
theorem dX8_rate_6 : decode cX8_rate 6 = .ok (.iconst 0, 1) := by decide +kernel
theorem dX8_rate_7 : decode cX8_rate 7 = .ok (.iconst 5, 1) := by decide +kernel
theorem dX8_rate_8 : decode cX8_rate 8 = .ok (.invokestatic 54, 3) := by decide +kernel
theorem dX8_rate_11 : decode cX8_rate 11 = .ok (.ifCond .eq 11, 3) := by decide +kernel
theorem dX8_rate_14 : decode cX8_rate 14 = .ok (.aload_n 0, 1) := by decide +kernel
theorem dX8_rate_15 : decode cX8_rate 15 = .ok (.iload_n 2, 1) := by decide +kernel
theorem dX8_rate_16 : decode cX8_rate 16 = .ok (.invokevirtual 131, 3) := by decide +kernel
theorem dX8_rate_19 : decode cX8_rate 19 = .ok (.ifCond .ne 6, 3) := by decide +kernel
theorem dX8_rate_22 : decode cX8_rate 22 = .ok (.ldc 182, 2) := by decide +kernel
theorem dX8_rate_24 : decode cX8_rate 24 = .ok (.ireturn, 1) := by decide +kernel
theorem dX8_rate_25 : decode cX8_rate 25 = .ok (.aload_n 0, 1) := by decide +kernel
theorem dX8_rate_26 : decode cX8_rate 26 = .ok (.getfield 19, 3) := by decide +kernel
theorem dX8_rate_29 : decode cX8_rate 29 = .ok (.iload_n 2, 1) := by decide +kernel
theorem dX8_rate_30 : decode cX8_rate 30 = .ok (.iaload, 1) := by decide +kernel
theorem dX8_rate_31 : decode cX8_rate 31 = .ok (.aload_n 0, 1) := by decide +kernel
theorem dX8_rate_32 : decode cX8_rate 32 = .ok (.getfield 22, 3) := by decide +kernel
theorem dX8_rate_35 : decode cX8_rate 35 = .ok (.iload_n 2, 1) := by decide +kernel
theorem dX8_rate_36 : decode cX8_rate 36 = .ok (.iaload, 1) := by decide +kernel
theorem dX8_rate_37 : decode cX8_rate 37 = .ok (.invokestatic 154, 3) := by decide +kernel
theorem dX8_rate_40 : decode cX8_rate 40 = .ok (.iadd, 1) := by decide +kernel
theorem dX8_rate_41 : decode cX8_rate 41 = .ok (.istore_n 3, 1) := by decide +kernel
theorem dX8_rate_42 : decode cX8_rate 42 = .ok (.aload_n 0, 1) := by decide +kernel
theorem dX8_rate_43 : decode cX8_rate 43 = .ok (.getfield 19, 3) := by decide +kernel
theorem dX8_rate_46 : decode cX8_rate 46 = .ok (.iload_n 2, 1) := by decide +kernel
theorem dX8_rate_47 : decode cX8_rate 47 = .ok (.iaload, 1) := by decide +kernel
theorem dX8_rate_48 : decode cX8_rate 48 = .ok (.aload_n 0, 1) := by decide +kernel
theorem dX8_rate_49 : decode cX8_rate 49 = .ok (.getfield 28, 3) := by decide +kernel
theorem dX8_rate_52 : decode cX8_rate 52 = .ok (.bipush 7, 2) := by decide +kernel
theorem dX8_rate_54 : decode cX8_rate 54 = .ok (.iload_n 2, 1) := by decide +kernel
theorem dX8_rate_55 : decode cX8_rate 55 = .ok (.iadd, 1) := by decide +kernel
theorem dX8_rate_56 : decode cX8_rate 56 = .ok (.iaload, 1) := by decide +kernel
theorem dX8_rate_57 : decode cX8_rate 57 = .ok (.isub, 1) := by decide +kernel
theorem dX8_rate_58 : decode cX8_rate 58 = .ok (.istore 4, 2) := by decide +kernel
theorem dX8_rate_60 : decode cX8_rate 60 = .ok (.aload_n 0, 1) := by decide +kernel
theorem dX8_rate_61 : decode cX8_rate 61 = .ok (.dup, 1) := by decide +kernel
theorem dX8_rate_62 : decode cX8_rate 62 = .ok (.getfield 183, 3) := by decide +kernel
theorem dX8_rate_65 : decode cX8_rate 65 = .ok (.iload_n 1, 1) := by decide +kernel
theorem dX8_rate_66 : decode cX8_rate 66 = .ok (.ifCond .ne 7, 3) := by decide +kernel
theorem dX8_rate_69 : decode cX8_rate 69 = .ok (.lconst 1, 1) := by decide +kernel
theorem dX8_rate_70 : decode cX8_rate 70 = .ok (.goto 50, 3) := by decide +kernel
theorem dX8_rate_73 : decode cX8_rate 73 = .ok (.iload_n 1, 1) := by decide +kernel
theorem dX8_rate_74 : decode cX8_rate 74 = .ok (.iconst 1, 1) := by decide +kernel
theorem dX8_rate_75 : decode cX8_rate 75 = .ok (.if_icmp .ne 9, 3) := by decide +kernel
theorem dX8_rate_78 : decode cX8_rate 78 = .ok (.ldc2_w 187, 3) := by decide +kernel
theorem dX8_rate_81 : decode cX8_rate 81 = .ok (.goto 39, 3) := by decide +kernel
theorem dX8_rate_84 : decode cX8_rate 84 = .ok (.iload_n 1, 1) := by decide +kernel
theorem dX8_rate_85 : decode cX8_rate 85 = .ok (.iconst 2, 1) := by decide +kernel
theorem dX8_rate_86 : decode cX8_rate 86 = .ok (.if_icmp .ne 9, 3) := by decide +kernel
theorem dX8_rate_89 : decode cX8_rate 89 = .ok (.ldc2_w 189, 3) := by decide +kernel
theorem dX8_rate_92 : decode cX8_rate 92 = .ok (.goto 28, 3) := by decide +kernel
theorem dX8_rate_95 : decode cX8_rate 95 = .ok (.iload_n 1, 1) := by decide +kernel
theorem dX8_rate_96 : decode cX8_rate 96 = .ok (.iconst 3, 1) := by decide +kernel
theorem dX8_rate_97 : decode cX8_rate 97 = .ok (.if_icmp .ne 9, 3) := by decide +kernel
theorem dX8_rate_100 : decode cX8_rate 100 = .ok (.ldc2_w 191, 3) := by decide +kernel
theorem dX8_rate_103 : decode cX8_rate 103 = .ok (.goto 17, 3) := by decide +kernel
theorem dX8_rate_106 : decode cX8_rate 106 = .ok (.iload_n 1, 1) := by decide +kernel
theorem dX8_rate_107 : decode cX8_rate 107 = .ok (.iconst 4, 1) := by decide +kernel
theorem dX8_rate_108 : decode cX8_rate 108 = .ok (.if_icmp .ne 9, 3) := by decide +kernel
theorem dX8_rate_111 : decode cX8_rate 111 = .ok (.ldc2_w 193, 3) := by decide +kernel
theorem dX8_rate_114 : decode cX8_rate 114 = .ok (.goto 6, 3) := by decide +kernel
theorem dX8_rate_117 : decode cX8_rate 117 = .ok (.ldc2_w 195, 3) := by decide +kernel
theorem dX8_rate_120 : decode cX8_rate 120 = .ok (.ladd, 1) := by decide +kernel
theorem dX8_rate_121 : decode cX8_rate 121 = .ok (.putfield 183, 3) := by decide +kernel
theorem dX8_rate_124 : decode cX8_rate 124 = .ok (.iload_n 1, 1) := by decide +kernel
theorem dX8_rate_125 : decode cX8_rate 125 = .ok (.ifCond .ne 12, 3) := by decide +kernel
theorem dX8_rate_128 : decode cX8_rate 128 = .ok (.aload_n 0, 1) := by decide +kernel
theorem dX8_rate_129 : decode cX8_rate 129 = .ok (.getfield 19, 3) := by decide +kernel
theorem dX8_rate_132 : decode cX8_rate 132 = .ok (.iload_n 2, 1) := by decide +kernel
theorem dX8_rate_133 : decode cX8_rate 133 = .ok (.iaload, 1) := by decide +kernel
theorem dX8_rate_134 : decode cX8_rate 134 = .ok (.goto 59, 3) := by decide +kernel
theorem dX8_rate_137 : decode cX8_rate 137 = .ok (.iload_n 1, 1) := by decide +kernel
theorem dX8_rate_138 : decode cX8_rate 138 = .ok (.iconst 1, 1) := by decide +kernel
theorem dX8_rate_139 : decode cX8_rate 139 = .ok (.if_icmp .ne 7, 3) := by decide +kernel
theorem dX8_rate_142 : decode cX8_rate 142 = .ok (.iload_n 3, 1) := by decide +kernel
theorem dX8_rate_143 : decode cX8_rate 143 = .ok (.goto 50, 3) := by decide +kernel
theorem dX8_rate_146 : decode cX8_rate 146 = .ok (.iload_n 1, 1) := by decide +kernel
theorem dX8_rate_147 : decode cX8_rate 147 = .ok (.iconst 2, 1) := by decide +kernel
theorem dX8_rate_148 : decode cX8_rate 148 = .ok (.if_icmp .ne 8, 3) := by decide +kernel
theorem dX8_rate_151 : decode cX8_rate 151 = .ok (.iload 4, 2) := by decide +kernel
theorem dX8_rate_153 : decode cX8_rate 153 = .ok (.goto 40, 3) := by decide +kernel
theorem dX8_rate_156 : decode cX8_rate 156 = .ok (.iload_n 1, 1) := by decide +kernel
theorem dX8_rate_157 : decode cX8_rate 157 = .ok (.iconst 3, 1) := by decide +kernel
theorem dX8_rate_158 : decode cX8_rate 158 = .ok (.if_icmp .ne 9, 3) := by decide +kernel
theorem dX8_rate_161 : decode cX8_rate 161 = .ok (.iconst 2, 1) := by decide +kernel
theorem dX8_rate_162 : decode cX8_rate 162 = .ok (.iload_n 3, 1) := by decide +kernel
theorem dX8_rate_163 : decode cX8_rate 163 = .ok (.imul, 1) := by decide +kernel
theorem dX8_rate_164 : decode cX8_rate 164 = .ok (.goto 29, 3) := by decide +kernel
theorem dX8_rate_167 : decode cX8_rate 167 = .ok (.iload_n 1, 1) := by decide +kernel
theorem dX8_rate_168 : decode cX8_rate 168 = .ok (.iconst 4, 1) := by decide +kernel
theorem dX8_rate_169 : decode cX8_rate 169 = .ok (.if_icmp .ne 10, 3) := by decide +kernel
theorem dX8_rate_172 : decode cX8_rate 172 = .ok (.iload 4, 2) := by decide +kernel
theorem dX8_rate_174 : decode cX8_rate 174 = .ok (.iload_n 2, 1) := by decide +kernel
theorem dX8_rate_175 : decode cX8_rate 175 = .ok (.iadd, 1) := by decide +kernel
theorem dX8_rate_176 : decode cX8_rate 176 = .ok (.goto 17, 3) := by decide +kernel
theorem dX8_rate_179 : decode cX8_rate 179 = .ok (.aload_n 0, 1) := by decide +kernel
theorem dX8_rate_180 : decode cX8_rate 180 = .ok (.getfield 19, 3) := by decide +kernel
theorem dX8_rate_183 : decode cX8_rate 183 = .ok (.iload_n 2, 1) := by decide +kernel
theorem dX8_rate_184 : decode cX8_rate 184 = .ok (.iaload, 1) := by decide +kernel
theorem dX8_rate_185 : decode cX8_rate 185 = .ok (.aload_n 0, 1) := by decide +kernel
theorem dX8_rate_186 : decode cX8_rate 186 = .ok (.getfield 28, 3) := by decide +kernel
theorem dX8_rate_189 : decode cX8_rate 189 = .ok (.bipush 17, 2) := by decide +kernel
theorem dX8_rate_191 : decode cX8_rate 191 = .ok (.iaload, 1) := by decide +kernel
theorem dX8_rate_192 : decode cX8_rate 192 = .ok (.iadd, 1) := by decide +kernel
theorem dX8_rate_193 : decode cX8_rate 193 = .ok (.ireturn, 1) := by decide +kernel
set_option maxRecDepth 20000 in
theorem ggX8_keep_X8_in : GoodIn wsX8_keep wsX8_in := goodIn_r _ [8] (by decide +kernel) (by decide +kernel)
set_option maxRecDepth 20000 in
theorem gX8_keep_X8_in : GoodIn wsX8_keep (va_wsS RX8 54 yX8_in wsX8_in) := goodIn_app (goodIn_of _ (by decide +kernel)) ggX8_keep_X8_in
theorem dX8_keep_0 : decode cX8_keep 0 = .ok (.aload_n 0, 1) := by decide +kernel
theorem dX8_keep_1 : decode cX8_keep 1 = .ok (.iconst 0, 1) := by decide +kernel
theorem dX8_keep_2 : decode cX8_keep 2 = .ok (.putfield 50, 3) := by decide +kernel
theorem dX8_keep_5 : decode cX8_keep 5 = .ok (.iload_n 1, 1) := by decide +kernel
theorem dX8_keep_6 : decode cX8_keep 6 = .ok (.iconst 0, 1) := by decide +kernel
theorem dX8_keep_7 : decode cX8_keep 7 = .ok (.iconst 1, 1) := by decide +kernel
theorem dX8_keep_8 : decode cX8_keep 8 = .ok (.invokestatic 54, 3) := by decide +kernel
theorem dX8_keep_11 : decode cX8_keep 11 = .ok (.ifCond .ne 5, 3) := by decide +kernel
theorem dX8_keep_14 : decode cX8_keep 14 = .ok (.iconst (-1), 1) := by decide +kernel
theorem dX8_keep_15 : decode cX8_keep 15 = .ok (.ireturn, 1) := by decide +kernel
theorem dX8_keep_16 : decode cX8_keep 16 = .ok (.iconst 0, 1) := by decide +kernel
theorem dX8_keep_17 : decode cX8_keep 17 = .ok (.istore_n 2, 1) := by decide +kernel
theorem dX8_keep_18 : decode cX8_keep 18 = .ok (.iload_n 2, 1) := by decide +kernel
theorem dX8_keep_19 : decode cX8_keep 19 = .ok (.bipush 19, 2) := by decide +kernel
theorem dX8_keep_21 : decode cX8_keep 21 = .ok (.if_icmp .ge 26, 3) := by decide +kernel
theorem dX8_keep_24 : decode cX8_keep 24 = .ok (.aload_n 0, 1) := by decide +kernel
theorem dX8_keep_25 : decode cX8_keep 25 = .ok (.getfield 34, 3) := by decide +kernel
theorem dX8_keep_28 : decode cX8_keep 28 = .ok (.bipush 19, 2) := by decide +kernel
theorem dX8_keep_30 : decode cX8_keep 30 = .ok (.iload_n 1, 1) := by decide +kernel
theorem dX8_keep_31 : decode cX8_keep 31 = .ok (.imul, 1) := by decide +kernel
theorem dX8_keep_32 : decode cX8_keep 32 = .ok (.iload_n 2, 1) := by decide +kernel
theorem dX8_keep_33 : decode cX8_keep 33 = .ok (.iadd, 1) := by decide +kernel
theorem dX8_keep_34 : decode cX8_keep 34 = .ok (.aload_n 0, 1) := by decide +kernel
theorem dX8_keep_35 : decode cX8_keep 35 = .ok (.getfield 28, 3) := by decide +kernel
theorem dX8_keep_38 : decode cX8_keep 38 = .ok (.iload_n 2, 1) := by decide +kernel
theorem dX8_keep_39 : decode cX8_keep 39 = .ok (.iaload, 1) := by decide +kernel
theorem dX8_keep_40 : decode cX8_keep 40 = .ok (.iastore, 1) := by decide +kernel
theorem dX8_keep_41 : decode cX8_keep 41 = .ok (.iinc 2 1, 3) := by decide +kernel
theorem dX8_keep_44 : decode cX8_keep 44 = .ok (.goto (-26), 3) := by decide +kernel
theorem dX8_keep_47 : decode cX8_keep 47 = .ok (.aload_n 0, 1) := by decide +kernel
theorem dX8_keep_48 : decode cX8_keep 48 = .ok (.getfield 37, 3) := by decide +kernel
theorem dX8_keep_51 : decode cX8_keep 51 = .ok (.iload_n 1, 1) := by decide +kernel
theorem dX8_keep_52 : decode cX8_keep 52 = .ok (.iconst 1, 1) := by decide +kernel
theorem dX8_keep_53 : decode cX8_keep 53 = .ok (.bastore, 1) := by decide +kernel
theorem dX8_keep_54 : decode cX8_keep 54 = .ok (.aload_n 0, 1) := by decide +kernel
theorem dX8_keep_55 : decode cX8_keep 55 = .ok (.getfield 28, 3) := by decide +kernel
theorem dX8_keep_58 : decode cX8_keep 58 = .ok (.bipush 17, 2) := by decide +kernel
theorem dX8_keep_60 : decode cX8_keep 60 = .ok (.iaload, 1) := by decide +kernel
theorem dX8_keep_61 : decode cX8_keep 61 = .ok (.ireturn, 1) := by decide +kernel
set_option maxRecDepth 20000 in
theorem ggX8_back_X8_in : GoodIn wsX8_back wsX8_in := goodIn_r _ [9] (by decide +kernel) (by decide +kernel)
set_option maxRecDepth 20000 in
theorem gX8_back_X8_in : GoodIn wsX8_back (va_wsS RX8 54 yX8_in wsX8_in) := goodIn_app (goodIn_of _ (by decide +kernel)) ggX8_back_X8_in
theorem dX8_back_0 : decode cX8_back 0 = .ok (.aload_n 0, 1) := by decide +kernel
theorem dX8_back_1 : decode cX8_back 1 = .ok (.iconst 0, 1) := by decide +kernel
theorem dX8_back_2 : decode cX8_back 2 = .ok (.putfield 50, 3) := by decide +kernel
theorem dX8_back_5 : decode cX8_back 5 = .ok (.iload_n 1, 1) := by decide +kernel
theorem dX8_back_6 : decode cX8_back 6 = .ok (.iconst 0, 1) := by decide +kernel
theorem dX8_back_7 : decode cX8_back 7 = .ok (.iconst 1, 1) := by decide +kernel
theorem dX8_back_8 : decode cX8_back 8 = .ok (.invokestatic 54, 3) := by decide +kernel
theorem dX8_back_11 : decode cX8_back 11 = .ok (.ifCond .ne 5, 3) := by decide +kernel
theorem dX8_back_14 : decode cX8_back 14 = .ok (.iconst (-1), 1) := by decide +kernel
theorem dX8_back_15 : decode cX8_back 15 = .ok (.ireturn, 1) := by decide +kernel
theorem dX8_back_16 : decode cX8_back 16 = .ok (.aload_n 0, 1) := by decide +kernel
theorem dX8_back_17 : decode cX8_back 17 = .ok (.getfield 37, 3) := by decide +kernel
theorem dX8_back_20 : decode cX8_back 20 = .ok (.iload_n 1, 1) := by decide +kernel
theorem dX8_back_21 : decode cX8_back 21 = .ok (.baload, 1) := by decide +kernel
theorem dX8_back_22 : decode cX8_back 22 = .ok (.ifCond .ne 6, 3) := by decide +kernel
theorem dX8_back_25 : decode cX8_back 25 = .ok (.bipush (-2), 2) := by decide +kernel
theorem dX8_back_27 : decode cX8_back 27 = .ok (.ireturn, 1) := by decide +kernel
theorem dX8_back_28 : decode cX8_back 28 = .ok (.iconst 0, 1) := by decide +kernel
theorem dX8_back_29 : decode cX8_back 29 = .ok (.istore_n 2, 1) := by decide +kernel
theorem dX8_back_30 : decode cX8_back 30 = .ok (.iload_n 2, 1) := by decide +kernel
theorem dX8_back_31 : decode cX8_back 31 = .ok (.bipush 19, 2) := by decide +kernel
theorem dX8_back_33 : decode cX8_back 33 = .ok (.if_icmp .ge 26, 3) := by decide +kernel
theorem dX8_back_36 : decode cX8_back 36 = .ok (.aload_n 0, 1) := by decide +kernel
theorem dX8_back_37 : decode cX8_back 37 = .ok (.getfield 28, 3) := by decide +kernel
theorem dX8_back_40 : decode cX8_back 40 = .ok (.iload_n 2, 1) := by decide +kernel
theorem dX8_back_41 : decode cX8_back 41 = .ok (.aload_n 0, 1) := by decide +kernel
theorem dX8_back_42 : decode cX8_back 42 = .ok (.getfield 34, 3) := by decide +kernel
theorem dX8_back_45 : decode cX8_back 45 = .ok (.bipush 19, 2) := by decide +kernel
theorem dX8_back_47 : decode cX8_back 47 = .ok (.iload_n 1, 1) := by decide +kernel
theorem dX8_back_48 : decode cX8_back 48 = .ok (.imul, 1) := by decide +kernel
theorem dX8_back_49 : decode cX8_back 49 = .ok (.iload_n 2, 1) := by decide +kernel
theorem dX8_back_50 : decode cX8_back 50 = .ok (.iadd, 1) := by decide +kernel
theorem dX8_back_51 : decode cX8_back 51 = .ok (.iaload, 1) := by decide +kernel
theorem dX8_back_52 : decode cX8_back 52 = .ok (.iastore, 1) := by decide +kernel
theorem dX8_back_53 : decode cX8_back 53 = .ok (.iinc 2 1, 3) := by decide +kernel
theorem dX8_back_56 : decode cX8_back 56 = .ok (.goto (-26), 3) := by decide +kernel
theorem dX8_back_59 : decode cX8_back 59 = .ok (.aload_n 0, 1) := by decide +kernel
theorem dX8_back_60 : decode cX8_back 60 = .ok (.iconst 0, 1) := by decide +kernel
theorem dX8_back_61 : decode cX8_back 61 = .ok (.putfield 109, 3) := by decide +kernel
theorem dX8_back_64 : decode cX8_back 64 = .ok (.aload_n 0, 1) := by decide +kernel
theorem dX8_back_65 : decode cX8_back 65 = .ok (.getfield 28, 3) := by decide +kernel
theorem dX8_back_68 : decode cX8_back 68 = .ok (.bipush 17, 2) := by decide +kernel
theorem dX8_back_70 : decode cX8_back 70 = .ok (.iaload, 1) := by decide +kernel
theorem dX8_back_71 : decode cX8_back 71 = .ok (.ireturn, 1) := by decide +kernel
set_option maxRecDepth 20000 in
theorem ggX8_count_X8_in : GoodIn wsX8_count wsX8_in := goodIn_r _ [8] (by decide +kernel) (by decide +kernel)
set_option maxRecDepth 20000 in
theorem gX8_count_X8_in : GoodIn wsX8_count (va_wsS RX8 54 yX8_in wsX8_in) := goodIn_app (goodIn_of _ (by decide +kernel)) ggX8_count_X8_in
theorem dX8_count_0 : decode cX8_count 0 = .ok (.aload_n 0, 1) := by decide +kernel
theorem dX8_count_1 : decode cX8_count 1 = .ok (.iconst 0, 1) := by decide +kernel
theorem dX8_count_2 : decode cX8_count 2 = .ok (.putfield 50, 3) := by decide +kernel
theorem dX8_count_5 : decode cX8_count 5 = .ok (.iload_n 1, 1) := by decide +kernel
theorem dX8_count_6 : decode cX8_count 6 = .ok (.iconst 0, 1) := by decide +kernel
theorem dX8_count_7 : decode cX8_count 7 = .ok (.iconst 2, 1) := by decide +kernel
theorem dX8_count_8 : decode cX8_count 8 = .ok (.invokestatic 54, 3) := by decide +kernel
theorem dX8_count_11 : decode cX8_count 11 = .ok (.ifCond .eq 12, 3) := by decide +kernel
theorem dX8_count_14 : decode cX8_count 14 = .ok (.aload_n 0, 1) := by decide +kernel
theorem dX8_count_15 : decode cX8_count 15 = .ok (.getfield 13, 3) := by decide +kernel
theorem dX8_count_18 : decode cX8_count 18 = .ok (.iload_n 1, 1) := by decide +kernel
theorem dX8_count_19 : decode cX8_count 19 = .ok (.iaload, 1) := by decide +kernel
theorem dX8_count_20 : decode cX8_count 20 = .ok (.goto 28, 3) := by decide +kernel
theorem dX8_count_23 : decode cX8_count 23 = .ok (.iload_n 1, 1) := by decide +kernel
theorem dX8_count_24 : decode cX8_count 24 = .ok (.iconst 3, 1) := by decide +kernel
theorem dX8_count_25 : decode cX8_count 25 = .ok (.if_icmp .ne 10, 3) := by decide +kernel
theorem dX8_count_28 : decode cX8_count 28 = .ok (.aload_n 0, 1) := by decide +kernel
theorem dX8_count_29 : decode cX8_count 29 = .ok (.getfield 106, 3) := by decide +kernel
theorem dX8_count_32 : decode cX8_count 32 = .ok (.goto 16, 3) := by decide +kernel
theorem dX8_count_35 : decode cX8_count 35 = .ok (.iload_n 1, 1) := by decide +kernel
theorem dX8_count_36 : decode cX8_count 36 = .ok (.iconst 4, 1) := by decide +kernel
theorem dX8_count_37 : decode cX8_count 37 = .ok (.if_icmp .ne 10, 3) := by decide +kernel
theorem dX8_count_40 : decode cX8_count 40 = .ok (.aload_n 0, 1) := by decide +kernel
theorem dX8_count_41 : decode cX8_count 41 = .ok (.getfield 58, 3) := by decide +kernel
theorem dX8_count_44 : decode cX8_count 44 = .ok (.goto 4, 3) := by decide +kernel
theorem dX8_count_47 : decode cX8_count 47 = .ok (.iconst (-1), 1) := by decide +kernel
theorem dX8_count_48 : decode cX8_count 48 = .ok (.ireturn, 1) := by decide +kernel
theorem dX8_trace_0 : decode cX8_trace 0 = .ok (.aload_n 0, 1) := by decide +kernel
theorem dX8_trace_1 : decode cX8_trace 1 = .ok (.iconst 0, 1) := by decide +kernel
theorem dX8_trace_2 : decode cX8_trace 2 = .ok (.putfield 50, 3) := by decide +kernel
theorem dX8_trace_5 : decode cX8_trace 5 = .ok (.aload_n 0, 1) := by decide +kernel
theorem dX8_trace_6 : decode cX8_trace 6 = .ok (.getfield 183, 3) := by decide +kernel
theorem dX8_trace_9 : decode cX8_trace 9 = .ok (.lreturn, 1) := by decide +kernel
end
section
theorem dJ6_bitCount_0f7a4_0 : decode cJ6_bitCount_0f7a4 0 = .ok (.iload_n 0, 1) := by decide +kernel
theorem dJ6_bitCount_0f7a4_1 : decode cJ6_bitCount_0f7a4 1 = .ok (.iload_n 0, 1) := by decide +kernel
theorem dJ6_bitCount_0f7a4_2 : decode cJ6_bitCount_0f7a4 2 = .ok (.iconst 1, 1) := by decide +kernel
theorem dJ6_bitCount_0f7a4_3 : decode cJ6_bitCount_0f7a4 3 = .ok (.iushr, 1) := by decide +kernel
theorem dJ6_bitCount_0f7a4_4 : decode cJ6_bitCount_0f7a4 4 = .ok (.ldc_w 265, 3) := by decide +kernel
theorem dJ6_bitCount_0f7a4_7 : decode cJ6_bitCount_0f7a4 7 = .ok (.iand, 1) := by decide +kernel
theorem dJ6_bitCount_0f7a4_8 : decode cJ6_bitCount_0f7a4 8 = .ok (.isub, 1) := by decide +kernel
theorem dJ6_bitCount_0f7a4_9 : decode cJ6_bitCount_0f7a4 9 = .ok (.istore_n 0, 1) := by decide +kernel
theorem dJ6_bitCount_0f7a4_10 : decode cJ6_bitCount_0f7a4 10 = .ok (.iload_n 0, 1) := by decide +kernel
theorem dJ6_bitCount_0f7a4_11 : decode cJ6_bitCount_0f7a4 11 = .ok (.ldc_w 266, 3) := by decide +kernel
theorem dJ6_bitCount_0f7a4_14 : decode cJ6_bitCount_0f7a4 14 = .ok (.iand, 1) := by decide +kernel
theorem dJ6_bitCount_0f7a4_15 : decode cJ6_bitCount_0f7a4 15 = .ok (.iload_n 0, 1) := by decide +kernel
theorem dJ6_bitCount_0f7a4_16 : decode cJ6_bitCount_0f7a4 16 = .ok (.iconst 2, 1) := by decide +kernel
theorem dJ6_bitCount_0f7a4_17 : decode cJ6_bitCount_0f7a4 17 = .ok (.iushr, 1) := by decide +kernel
theorem dJ6_bitCount_0f7a4_18 : decode cJ6_bitCount_0f7a4 18 = .ok (.ldc_w 266, 3) := by decide +kernel
theorem dJ6_bitCount_0f7a4_21 : decode cJ6_bitCount_0f7a4 21 = .ok (.iand, 1) := by decide +kernel
theorem dJ6_bitCount_0f7a4_22 : decode cJ6_bitCount_0f7a4 22 = .ok (.iadd, 1) := by decide +kernel
theorem dJ6_bitCount_0f7a4_23 : decode cJ6_bitCount_0f7a4 23 = .ok (.istore_n 0, 1) := by decide +kernel
theorem dJ6_bitCount_0f7a4_24 : decode cJ6_bitCount_0f7a4 24 = .ok (.iload_n 0, 1) := by decide +kernel
theorem dJ6_bitCount_0f7a4_25 : decode cJ6_bitCount_0f7a4 25 = .ok (.iload_n 0, 1) := by decide +kernel
theorem dJ6_bitCount_0f7a4_26 : decode cJ6_bitCount_0f7a4 26 = .ok (.iconst 4, 1) := by decide +kernel
theorem dJ6_bitCount_0f7a4_27 : decode cJ6_bitCount_0f7a4 27 = .ok (.iushr, 1) := by decide +kernel
theorem dJ6_bitCount_0f7a4_28 : decode cJ6_bitCount_0f7a4 28 = .ok (.iadd, 1) := by decide +kernel
theorem dJ6_bitCount_0f7a4_29 : decode cJ6_bitCount_0f7a4 29 = .ok (.ldc_w 267, 3) := by decide +kernel
theorem dJ6_bitCount_0f7a4_32 : decode cJ6_bitCount_0f7a4 32 = .ok (.iand, 1) := by decide +kernel
theorem dJ6_bitCount_0f7a4_33 : decode cJ6_bitCount_0f7a4 33 = .ok (.istore_n 0, 1) := by decide +kernel
theorem dJ6_bitCount_0f7a4_34 : decode cJ6_bitCount_0f7a4 34 = .ok (.iload_n 0, 1) := by decide +kernel
theorem dJ6_bitCount_0f7a4_35 : decode cJ6_bitCount_0f7a4 35 = .ok (.iload_n 0, 1) := by decide +kernel
theorem dJ6_bitCount_0f7a4_36 : decode cJ6_bitCount_0f7a4 36 = .ok (.bipush 8, 2) := by decide +kernel
theorem dJ6_bitCount_0f7a4_38 : decode cJ6_bitCount_0f7a4 38 = .ok (.iushr, 1) := by decide +kernel
theorem dJ6_bitCount_0f7a4_39 : decode cJ6_bitCount_0f7a4 39 = .ok (.iadd, 1) := by decide +kernel
theorem dJ6_bitCount_0f7a4_40 : decode cJ6_bitCount_0f7a4 40 = .ok (.istore_n 0, 1) := by decide +kernel
theorem dJ6_bitCount_0f7a4_41 : decode cJ6_bitCount_0f7a4 41 = .ok (.iload_n 0, 1) := by decide +kernel
theorem dJ6_bitCount_0f7a4_42 : decode cJ6_bitCount_0f7a4 42 = .ok (.iload_n 0, 1) := by decide +kernel
theorem dJ6_bitCount_0f7a4_43 : decode cJ6_bitCount_0f7a4 43 = .ok (.bipush 16, 2) := by decide +kernel
theorem dJ6_bitCount_0f7a4_45 : decode cJ6_bitCount_0f7a4 45 = .ok (.iushr, 1) := by decide +kernel
theorem dJ6_bitCount_0f7a4_46 : decode cJ6_bitCount_0f7a4 46 = .ok (.iadd, 1) := by decide +kernel
theorem dJ6_bitCount_0f7a4_47 : decode cJ6_bitCount_0f7a4 47 = .ok (.istore_n 0, 1) := by decide +kernel
theorem dJ6_bitCount_0f7a4_48 : decode cJ6_bitCount_0f7a4 48 = .ok (.iload_n 0, 1) := by decide +kernel
theorem dJ6_bitCount_0f7a4_49 : decode cJ6_bitCount_0f7a4 49 = .ok (.bipush 63, 2) := by decide +kernel
theorem dJ6_bitCount_0f7a4_51 : decode cJ6_bitCount_0f7a4 51 = .ok (.iand, 1) := by decide +kernel
theorem dJ6_bitCount_0f7a4_52 : decode cJ6_bitCount_0f7a4 52 = .ok (.ireturn, 1) := by decide +kernel
theorem dJ9_min_7cf53_0 : decode cJ9_min_7cf53 0 = .ok (.iload_n 0, 1) := by decide +kernel
theorem dJ9_min_7cf53_1 : decode cJ9_min_7cf53 1 = .ok (.iload_n 1, 1) := by decide +kernel
theorem dJ9_min_7cf53_2 : decode cJ9_min_7cf53 2 = .ok (.if_icmp .gt 7, 3) := by decide +kernel
theorem dJ9_min_7cf53_5 : decode cJ9_min_7cf53 5 = .ok (.iload_n 0, 1) := by decide +kernel
theorem dJ9_min_7cf53_6 : decode cJ9_min_7cf53 6 = .ok (.goto 4, 3) := by decide +kernel
theorem dJ9_min_7cf53_9 : decode cJ9_min_7cf53 9 = .ok (.iload_n 1, 1) := by decide +kernel
theorem dJ9_min_7cf53_10 : decode cJ9_min_7cf53 10 = .ok (.ireturn, 1) := by decide +kernel
theorem dJ7_fill_53178_0 : decode cJ7_fill_53178 0 = .ok (.iconst 0, 1) := by decide +kernel
theorem dJ7_fill_53178_1 : decode cJ7_fill_53178 1 = .ok (.istore_n 2, 1) := by decide +kernel
theorem dJ7_fill_53178_2 : decode cJ7_fill_53178 2 = .ok (.aload_n 0, 1) := by decide +kernel
theorem dJ7_fill_53178_3 : decode cJ7_fill_53178 3 = .ok (.arraylength, 1) := by decide +kernel
theorem dJ7_fill_53178_4 : decode cJ7_fill_53178 4 = .ok (.istore_n 3, 1) := by decide +kernel
theorem dJ7_fill_53178_5 : decode cJ7_fill_53178 5 = .ok (.iload_n 2, 1) := by decide +kernel
theorem dJ7_fill_53178_6 : decode cJ7_fill_53178 6 = .ok (.iload_n 3, 1) := by decide +kernel
theorem dJ7_fill_53178_7 : decode cJ7_fill_53178 7 = .ok (.if_icmp .ge 13, 3) := by decide +kernel
theorem dJ7_fill_53178_10 : decode cJ7_fill_53178 10 = .ok (.aload_n 0, 1) := by decide +kernel
theorem dJ7_fill_53178_11 : decode cJ7_fill_53178 11 = .ok (.iload_n 2, 1) := by decide +kernel
theorem dJ7_fill_53178_12 : decode cJ7_fill_53178 12 = .ok (.iload_n 1, 1) := by decide +kernel
theorem dJ7_fill_53178_13 : decode cJ7_fill_53178 13 = .ok (.iastore, 1) := by decide +kernel
theorem dJ7_fill_53178_14 : decode cJ7_fill_53178 14 = .ok (.iinc 2 1, 3) := by decide +kernel
theorem dJ7_fill_53178_17 : decode cJ7_fill_53178 17 = .ok (.goto (-12), 3) := by decide +kernel
theorem dJ7_fill_53178_20 : decode cJ7_fill_53178 20 = .ok (.return_, 1) := by decide +kernel
end
section
/-! OWN HELPERS over the kit: natural indexes, loops, calls that only read, calls that write a part of a world -/
section WK
variable {p : Program} {l : Launch} {e : Env} {R : Room} {s : State} {m : MethodId} {args : Array Value} {below : List Frame} {meth : Method} {c : Code} {H : Heap} {locs : List Loc} {cells slots : Nat} {Q : State → Prop}
variable {cc : ByteArray} {pc : Nat} {ls : Array Slot} {rest : List Value} {D : va_G} {cl : List vw_C} {A : Nat → Prop} {a : Nat} {tys : List (ClassId × FieldType)} {ws : va_W} {H0 : Heap}
theorem wk_iald (hexec : p.tables.exec = Jvm.exec) (hb : c.code = cc) (hK : va_K D cl tys s) (hP : va_P D cl ws H) (q0 t0 : Nat) {cA : ClassId} {n : Nat} {f : Nat → Int32} (ha : ws[q0]? = some (a, .inl (cA, n, .inl f))) (ht : tys[t0]? = some (cA, .int)) {i : Nat} (hi : i < n) (hn : n < 2 ^ 31) (hdg : decode cc pc = .ok (.iaload, 1))
    (kk : W p l e R s m args below meth c H locs cells slots Q (F0 m (pc + 1) ls (.int (f i) :: rest))) : W p l e R s m args below meth c H locs cells slots Q (F0 m pc ls (.int (nI i) :: .ref a :: rest)) := by
  refine va_iald hexec hb hK hP q0 t0 ha ht (vp_in_nI hi hn) hdg ?_
  rw [nI_clamp (Nat.lt_trans hi hn)]
  exact kk
theorem wk_cald (hexec : p.tables.exec = Jvm.exec) (hb : c.code = cc) (hK : va_K D cl tys s) (hP : va_P D cl ws H) (q0 t0 : Nat) {cA : ClassId} {n : Nat} {f : Nat → Int32} (ha : ws[q0]? = some (a, .inl (cA, n, .inl f))) (ht : tys[t0]? = some (cA, .char)) {i : Nat} (hi : i < n) (hn : n < 2 ^ 31) (hdg : decode cc pc = .ok (.caload, 1))
    (kk : W p l e R s m args below meth c H locs cells slots Q (F0 m (pc + 1) ls (.int (f i) :: rest))) : W p l e R s m args below meth c H locs cells slots Q (F0 m pc ls (.int (nI i) :: .ref a :: rest)) := by
  refine va_cald hexec hb hK hP q0 t0 ha ht (vp_in_nI hi hn) hdg ?_
  rw [nI_clamp (Nat.lt_trans hi hn)]
  exact kk
theorem wk_zald (hexec : p.tables.exec = Jvm.exec) (hb : c.code = cc) (hK : va_K D cl tys s) (hP : va_P D cl ws H) (q0 t0 : Nat) {cA : ClassId} {n : Nat} {f : Nat → Int32} (ha : ws[q0]? = some (a, .inl (cA, n, .inl f))) (ht : tys[t0]? = some (cA, .boolean)) {i : Nat} (hi : i < n) (hn : n < 2 ^ 31) (hdg : decode cc pc = .ok (.baload, 1))
    (kk : W p l e R s m args below meth c H locs cells slots Q (F0 m (pc + 1) ls (.int (f i) :: rest))) : W p l e R s m args below meth c H locs cells slots Q (F0 m pc ls (.int (nI i) :: .ref a :: rest)) := by
  refine va_zald hexec hb hK hP q0 t0 ha ht (vp_in_nI hi hn) hdg ?_
  rw [nI_clamp (Nat.lt_trans hi hn)]
  exact kk
theorem wk_aald (hexec : p.tables.exec = Jvm.exec) (hb : c.code = cc) (hK : va_K D cl tys s) (hP : va_P D cl ws H) (q0 t0 : Nat) {cA : ClassId} {C : String} {n : Nat} {f : Nat → Option Nat} (ha : ws[q0]? = some (a, .inl (cA, n, .inr (.inr (.inr (.inr f)))))) (ht : tys[t0]? = some (cA, .object C)) {i b : Nat} (hi : i < n) (hn : n < 2 ^ 31) (hf : f i = some b) (hdg : decode cc pc = .ok (.aaload, 1))
    (kk : W p l e R s m args below meth c H locs cells slots Q (F0 m (pc + 1) ls (.ref b :: rest))) : W p l e R s m args below meth c H locs cells slots Q (F0 m pc ls (.int (nI i) :: .ref a :: rest)) := by
  refine va_aldq hexec hb hK hP q0 t0 ha ht (vp_in_nI hi hn) hdg ?_
  rw [nI_clamp (Nat.lt_trans hi hn), hf]
  exact kk
theorem wk_iast (hexec : p.tables.exec = Jvm.exec) (hb : c.code = cc) (hK : va_K D cl tys s) (hP : va_P D cl ws H) (hD : va_D A ws) (hS : va_S A H0 H locs) (q0 t0 : Nat) {cA : ClassId} {n : Nat} {f : Nat → Int32} (ha : ws[q0]? = some (a, .inl (cA, n, .inl f))) (ht : tys[t0]? = some (cA, .int)) {i : Nat} {x : Int32} (hi : i < n) (hn : n < 2 ^ 31) (hdg : decode cc pc = .ok (.iastore, 1))
    (kk : ∀ (H1 : Heap) (locs1 : List Loc), va_P D cl (ws.set q0 (a, .inl (cA, n, .inl (upd f i x)))) H1 → va_D A (ws.set q0 (a, .inl (cA, n, .inl (upd f i x)))) → va_S A H0 H1 locs1 → W p l e R s m args below meth c H1 locs1 cells slots Q (F0 m (pc + 1) ls rest)) : W p l e R s m args below meth c H locs cells slots Q (F0 m pc ls (.int x :: .int (nI i) :: .ref a :: rest)) := by
  refine va_iast hexec hb hK hP hD hS q0 t0 ha ht (vp_in_nI hi hn) hdg ?_
  rw [nI_clamp (Nat.lt_trans hi hn)]
  exact kk
theorem wk_cast (hexec : p.tables.exec = Jvm.exec) (hb : c.code = cc) (hK : va_K D cl tys s) (hP : va_P D cl ws H) (hD : va_D A ws) (hS : va_S A H0 H locs) (q0 t0 : Nat) {cA : ClassId} {n : Nat} {f : Nat → Int32} (ha : ws[q0]? = some (a, .inl (cA, n, .inl f))) (ht : tys[t0]? = some (cA, .char)) {i : Nat} {x : Int32} (hi : i < n) (hn : n < 2 ^ 31) (hdg : decode cc pc = .ok (.castore, 1))
    (kk : ∀ (H1 : Heap) (locs1 : List Loc), va_P D cl (ws.set q0 (a, .inl (cA, n, .inl (upd f i (vp_nar .char x))))) H1 → va_D A (ws.set q0 (a, .inl (cA, n, .inl (upd f i (vp_nar .char x))))) → va_S A H0 H1 locs1 → W p l e R s m args below meth c H1 locs1 cells slots Q (F0 m (pc + 1) ls rest)) : W p l e R s m args below meth c H locs cells slots Q (F0 m pc ls (.int x :: .int (nI i) :: .ref a :: rest)) := by
  refine va_cast hexec hb hK hP hD hS q0 t0 ha ht (vp_in_nI hi hn) hdg ?_
  rw [nI_clamp (Nat.lt_trans hi hn)]
  exact kk
theorem wk_zast (hexec : p.tables.exec = Jvm.exec) (hb : c.code = cc) (hK : va_K D cl tys s) (hP : va_P D cl ws H) (hD : va_D A ws) (hS : va_S A H0 H locs) (q0 t0 : Nat) {cA : ClassId} {n : Nat} {f : Nat → Int32} (ha : ws[q0]? = some (a, .inl (cA, n, .inl f))) (ht : tys[t0]? = some (cA, .boolean)) {i : Nat} {x : Int32} (hi : i < n) (hn : n < 2 ^ 31) (hnar : vp_nar .boolean x = x) (hdg : decode cc pc = .ok (.bastore, 1))
    (kk : ∀ (H1 : Heap) (locs1 : List Loc), va_P D cl (ws.set q0 (a, .inl (cA, n, .inl (upd f i x)))) H1 → va_D A (ws.set q0 (a, .inl (cA, n, .inl (upd f i x)))) → va_S A H0 H1 locs1 → W p l e R s m args below meth c H1 locs1 cells slots Q (F0 m (pc + 1) ls rest)) : W p l e R s m args below meth c H locs cells slots Q (F0 m pc ls (.int x :: .int (nI i) :: .ref a :: rest)) := by
  refine va_zast hexec hb hK hP hD hS q0 t0 ha ht (vp_in_nI hi hn) hdg ?_
  rw [nI_clamp (Nat.lt_trans hi hn), hnar]
  exact kk
theorem wk_iadd (hexec : p.tables.exec = Jvm.exec) (hb : c.code = cc) {x y : Nat} (hdg : decode cc pc = .ok (.iadd, 1)) (k : W p l e R s m args below meth c H locs cells slots Q (F0 m (pc + 1) ls (.int (nI (x + y)) :: rest))) : W p l e R s m args below meth c H locs cells slots Q (F0 m pc ls (.int (nI y) :: .int (nI x) :: rest)) := by
  refine lv_iadd hexec hb hdg ?_
  rw [nI_add]
  exact k
theorem wk_imul (hexec : p.tables.exec = Jvm.exec) (hb : c.code = cc) {x y : Nat} (hdg : decode cc pc = .ok (.imul, 1)) (k : W p l e R s m args below meth c H locs cells slots Q (F0 m (pc + 1) ls (.int (nI (x * y)) :: rest))) : W p l e R s m args below meth c H locs cells slots Q (F0 m pc ls (.int (nI y) :: .int (nI x) :: rest)) := by
  refine lv_imul hexec hb hdg ?_
  rw [pk_mul]
  exact k
theorem wk_isub (hexec : p.tables.exec = Jvm.exec) (hb : c.code = cc) {x y : Nat} (h : y ≤ x) (hdg : decode cc pc = .ok (.isub, 1)) (k : W p l e R s m args below meth c H locs cells slots Q (F0 m (pc + 1) ls (.int (nI (x - y)) :: rest))) : W p l e R s m args below meth c H locs cells slots Q (F0 m pc ls (.int (nI y) :: .int (nI x) :: rest)) := by
  refine lv_isub hexec hb hdg ?_
  rw [pk_sub h]
  exact k
theorem wk_ge (hexec : p.tables.exec = Jvm.exec) (hb : c.code = cc) {x y : Nat} {off : Int} {tgt : Nat} (hx : x < 2 ^ 31) (hy : y < 2 ^ 31) (hdg : decode cc pc = .ok (.if_icmp .ge off, 3)) (ht : (pc : Int) + off = (tgt : Int))
    (kt : y ≤ x → W p l e R s m args below meth c H locs cells slots Q (F0 m tgt ls rest)) (kf : x < y → W p l e R s m args below meth c H locs cells slots Q (F0 m (pc + 3) ls rest)) : W p l e R s m args below meth c H locs cells slots Q (F0 m pc ls (.int (nI y) :: .int (nI x) :: rest)) :=
  lv_icmp_ge hexec hb hdg ht (fun h => kt ((nI_leI hy hx).mp h)) (fun h => kf (Nat.lt_of_not_le fun q => h ((nI_leI hy hx).mpr q)))
theorem wk_lt (hexec : p.tables.exec = Jvm.exec) (hb : c.code = cc) {x y : Nat} {off : Int} {tgt : Nat} (hx : x < 2 ^ 31) (hy : y < 2 ^ 31) (hdg : decode cc pc = .ok (.if_icmp .lt off, 3)) (ht : (pc : Int) + off = (tgt : Int))
    (kt : x < y → W p l e R s m args below meth c H locs cells slots Q (F0 m tgt ls rest)) (kf : y ≤ x → W p l e R s m args below meth c H locs cells slots Q (F0 m (pc + 3) ls rest)) : W p l e R s m args below meth c H locs cells slots Q (F0 m pc ls (.int (nI y) :: .int (nI x) :: rest)) :=
  lv_icmp_lt hexec hb hdg ht (fun h => kt ((nI_ltI hx hy).mp h)) (fun h => kf (Nat.le_of_not_lt fun q => h ((nI_ltI hx hy).mpr q)))
theorem wk_gt (hexec : p.tables.exec = Jvm.exec) (hb : c.code = cc) {x y : Nat} {off : Int} {tgt : Nat} (hx : x < 2 ^ 31) (hy : y < 2 ^ 31) (hdg : decode cc pc = .ok (.if_icmp .gt off, 3)) (ht : (pc : Int) + off = (tgt : Int))
    (kt : y < x → W p l e R s m args below meth c H locs cells slots Q (F0 m tgt ls rest)) (kf : x ≤ y → W p l e R s m args below meth c H locs cells slots Q (F0 m (pc + 3) ls rest)) : W p l e R s m args below meth c H locs cells slots Q (F0 m pc ls (.int (nI y) :: .int (nI x) :: rest)) :=
  lv_icmp_gt hexec hb hdg ht (fun h => kt ((nI_ltI hy hx).mp h)) (fun h => kf (Nat.le_of_not_lt fun q => h ((nI_ltI hy hx).mpr q)))
theorem wk_le (hexec : p.tables.exec = Jvm.exec) (hb : c.code = cc) {x y : Nat} {off : Int} {tgt : Nat} (hx : x < 2 ^ 31) (hy : y < 2 ^ 31) (hdg : decode cc pc = .ok (.if_icmp .le off, 3)) (ht : (pc : Int) + off = (tgt : Int))
    (kt : x ≤ y → W p l e R s m args below meth c H locs cells slots Q (F0 m tgt ls rest)) (kf : y < x → W p l e R s m args below meth c H locs cells slots Q (F0 m (pc + 3) ls rest)) : W p l e R s m args below meth c H locs cells slots Q (F0 m pc ls (.int (nI y) :: .int (nI x) :: rest)) :=
  lv_icmp_le hexec hb hdg ht (fun h => kt ((nI_leI hx hy).mp h)) (fun h => kf (Nat.lt_of_not_le fun q => h ((nI_leI hx hy).mpr q)))
theorem wk_eq (hexec : p.tables.exec = Jvm.exec) (hb : c.code = cc) {x y : Nat} {off : Int} {tgt : Nat} (hx : x < 2 ^ 31) (hy : y < 2 ^ 31) (hdg : decode cc pc = .ok (.if_icmp .eq off, 3)) (ht : (pc : Int) + off = (tgt : Int))
    (kt : x = y → W p l e R s m args below meth c H locs cells slots Q (F0 m tgt ls rest)) (kf : ¬ x = y → W p l e R s m args below meth c H locs cells slots Q (F0 m (pc + 3) ls rest)) : W p l e R s m args below meth c H locs cells slots Q (F0 m pc ls (.int (nI y) :: .int (nI x) :: rest)) :=
  lv_icmp_eq hexec hb hdg ht (fun h => kt ((nI_eq hx hy).mp h)) (fun h => kf fun q => h ((nI_eq hx hy).mpr q))
theorem wk_ne (hexec : p.tables.exec = Jvm.exec) (hb : c.code = cc) {x y : Nat} {off : Int} {tgt : Nat} (hx : x < 2 ^ 31) (hy : y < 2 ^ 31) (hdg : decode cc pc = .ok (.if_icmp .ne off, 3)) (ht : (pc : Int) + off = (tgt : Int))
    (kt : ¬ x = y → W p l e R s m args below meth c H locs cells slots Q (F0 m tgt ls rest)) (kf : x = y → W p l e R s m args below meth c H locs cells slots Q (F0 m (pc + 3) ls rest)) : W p l e R s m args below meth c H locs cells slots Q (F0 m pc ls (.int (nI y) :: .int (nI x) :: rest)) :=
  lv_icmp_ne hexec hb hdg ht (fun h => kt fun q => h ((nI_eq hx hy).mpr q)) (fun h => kf ((nI_eq hx hy).mp h))
/-- a method's entry -/
theorem wk_enter {vs : List Value} {n : Nat} (h : (lg_sl vs).length ≤ n) (k : ∀ ls : Array Slot, lv_has ls n (lv_args 0 vs) → W p l e R s m args below meth c H locs cells slots Q (F0 m 0 ls [])) : W p l e R s m args below meth c H locs cells slots Q (entryFrame m vs.toArray n) := by
  rw [lg_entry_eq]
  exact k _ (lv_entry vs h)
/-- the ends of a method that only reads -/
theorem wk_ret {v r : Int32} (hexec : p.tables.exec = Jvm.exec) (hb : c.code = cc) (hr : meth.sig.returnType = some .int) (hlocks : meth.locks = false) (hdg : decode cc pc = .ok (.ireturn, 1)) (he : v = r) : W p l e R s m args below meth c s.heap [] cells slots (MQ below (QcRead r) args s cells slots (fun _ => False)) (F0 m pc ls [.int v]) := by
  subst he
  exact W.iret hexec hb hr (fun t ht _ => ⟨rfl, ht⟩) (fun _ h => by cases h) hdg hlocks
theorem wk_zret {v r : Int32} (hexec : p.tables.exec = Jvm.exec) (hb : c.code = cc) (hr : meth.sig.returnType = some .boolean) (hlocks : meth.locks = false) (hdg : decode cc pc = .ok (.ireturn, 1)) (hn : narrow .boolean (.int v) = .int v) (he : v = r) : W p l e R s m args below meth c s.heap [] cells slots (MQ below (QcRead r) args s cells slots (fun _ => False)) (F0 m pc ls [.int v]) := by
  subst he
  exact W.zret hexec hb hr hn (fun t ht _ => ⟨rfl, ht⟩) (fun _ h => by cases h) hdg hlocks
/-- a loop of a method that only reads: I x n: the state x, n rounds at most are left -/
theorem wk_loop {σ : Type} {nL : Nat} (I : σ → Nat → Prop) (L : σ → List (Nat × Value)) (x0 : σ) (n0 : Nat) (h0 : I x0 n0) (hl : lv_has ls nL (L x0))
    (step : ∀ (n : Nat) (x : σ) (ls : Array Slot), I x n → lv_has ls nL (L x) → (∀ (y : σ) (k : Nat) (ls' : Array Slot), k < n → I y k → lv_has ls' nL (L y) → W p l e R s m args below meth c H locs cells slots Q (F0 m pc ls' rest)) → W p l e R s m args below meth c H locs cells slots Q (F0 m pc ls rest)) : W p l e R s m args below meth c H locs cells slots Q (F0 m pc ls rest) := by
  have key : ∀ (b n : Nat) (x : σ) (ls : Array Slot), n < b → I x n → lv_has ls nL (L x) → W p l e R s m args below meth c H locs cells slots Q (F0 m pc ls rest) := by
    intro b
    induction b with
    | zero => intro n x ls h; exact absurd h (Nat.not_lt_zero n)
    | succ b ih => intro n x ls h hI hl; exact step n x ls hI hl (fun y k ls' hk hI' hl' => ih k y ls' (by omega) hI' hl')
  exact key (n0 + 1) n0 x0 ls (Nat.lt_succ_self n0) h0 hl
/-- a loop that writes: its world is a function of the loop's state -/
theorem wk_loopM {σ : Type} {nL : Nat} {A0 : Nat → Prop} {H0 : Heap} (I : σ → Nat → Prop) (L : σ → List (Nat × Value)) (Wd : σ → va_W) (x0 : σ) (n0 : Nat) (h0 : I x0 n0) (hl : lv_has ls nL (L x0)) (hP : va_P D cl (Wd x0) H) (hD : va_D A0 (Wd x0)) (hS : va_S A0 H0 H locs)
    (step : ∀ (n : Nat) (x : σ) (ls : Array Slot) (H : Heap) (locs : List Loc), I x n → lv_has ls nL (L x) → va_P D cl (Wd x) H → va_D A0 (Wd x) → va_S A0 H0 H locs → (∀ (y : σ) (k : Nat) (ls' : Array Slot) (H : Heap) (locs : List Loc), k < n → I y k → lv_has ls' nL (L y) → va_P D cl (Wd y) H → va_D A0 (Wd y) → va_S A0 H0 H locs → W p l e R s m args below meth c H locs cells slots Q (F0 m pc ls' rest)) → W p l e R s m args below meth c H locs cells slots Q (F0 m pc ls rest)) : W p l e R s m args below meth c H locs cells slots Q (F0 m pc ls rest) := by
  have key : ∀ (b n : Nat) (x : σ) (ls : Array Slot) (H : Heap) (locs : List Loc), n < b → I x n → lv_has ls nL (L x) → va_P D cl (Wd x) H → va_D A0 (Wd x) → va_S A0 H0 H locs → W p l e R s m args below meth c H locs cells slots Q (F0 m pc ls rest) := by
    intro b
    induction b with
    | zero => intro n x ls H locs h; exact absurd h (Nat.not_lt_zero n)
    | succ b ih => intro n x ls H locs h hI hl hP hD hS; exact step n x ls H locs hI hl hP hD hS (fun y k ls' H locs hk hI' hl' hP hD hS => ih k y ls' H locs (by omega) hI' hl' hP hD hS)
  exact key (n0 + 1) n0 x0 ls H locs (Nat.lt_succ_self n0) h0 hl hP hD hS
/-- a call that only reads -/
theorem wk_read {r : Int32} {a0 : Array Value} {st0 : List Value} (hr : va_Run p l e R s m args below meth c H locs cells slots 0 0 (F0 m pc ls st0) rest (QcRead r a0) (fun _ => False)) (kk : W p l e R s m args below meth c H locs cells slots Q (F0 m (pc + 3) ls (.int r :: rest))) : W p l e R s m args below meth c H locs cells slots Q (F0 m pc ls st0) := W.callR hr.run kk
end WK
/-! a part of a world written anew, place by place -/
def setL (ws : va_W) : List Nat → va_W → va_W
  | i :: is, q :: qs => setL (ws.set i q) is qs
  | _, _ => ws
theorem setL_get : ∀ (is : List Nat) (w1 ws : va_W) (k : Nat) (q : Nat × va_E), is.length = w1.length → (setL ws is w1)[k]? = some q → (∃ j : Nat, is[j]? = some k ∧ w1[j]? = some q) ∨ (k ∉ is ∧ ws[k]? = some q)
  | [], w1, ws, k, q, _, h => Or.inr ⟨List.not_mem_nil, by cases w1 <;> exact h⟩
  | i :: is, [], ws, k, q, hlen, h => by cases hlen
  | i :: is, q0 :: qs, ws, k, q, hlen, h => by
    rcases setL_get is qs (ws.set i q0) k q (by simpa using hlen) h with ⟨j, h1, h2⟩ | ⟨h1, h2⟩
    · exact Or.inl ⟨j + 1, by simpa using h1, by simpa using h2⟩
    · by_cases hk : k = i
      · subst hk
        have hlt : k < ws.length := by
          have := (List.getElem?_eq_some_iff.mp h2).1
          simpa using this
        rw [List.getElem?_set_self hlt] at h2
        exact Or.inl ⟨0, rfl, by simpa using h2⟩
      · rw [List.getElem?_set_ne (Ne.symm hk)] at h2
        exact Or.inr ⟨fun z => by rcases List.mem_cons.mp z with z | z; exact hk z; exact h1 z, h2⟩
theorem wk_frame {A0 : Nat → Prop} {D : va_G} {cl : List vw_C} {ws wc w1 : va_W} {H H1 : Heap} (hP : va_P D cl ws H) (hD : va_D A0 ws) (isC : List Nat) (hC : isC.map (fun i => ws[i]?) = wc.map some) (ha : w1.map Prod.fst = wc.map Prod.fst)
    (hk : ∀ q : Nat, q < H.size → ¬ va_A wc H.size q → H1[q]? = H[q]?) (hP1 : va_P D cl w1 H1) : va_P D cl (setL ws isC w1) H1 ∧ va_D A0 (setL ws isC w1) := by
  have hlen : isC.length = w1.length := by
    have h1 := congrArg List.length hC
    have h2 := congrArg List.length ha
    simp at h1 h2
    omega
  have at' : ∀ (j : Nat) (q : Nat × va_E), wc[j]? = some q → ∃ i, isC[j]? = some i ∧ ws[i]? = some q := by
    intro j q hq
    have h1 : (isC.map (fun i => ws[i]?))[j]? = some (some q) := by rw [hC, List.getElem?_map, hq]; rfl
    rw [List.getElem?_map] at h1
    cases hi : isC[j]? with
    | none => rw [hi] at h1; cases h1
    | some i => rw [hi] at h1; exact ⟨i, rfl, Option.some.inj h1⟩
  have key : ∀ (k : Nat) (q : Nat × va_E), (setL ws isC w1)[k]? = some q → ∃ q0, ws[k]? = some q0 ∧ q0.1 = q.1 := by
    intro k q hq
    rcases setL_get isC w1 ws k q hlen hq with ⟨j, h1, h2⟩ | ⟨-, h2⟩
    · have h3 : (w1.map Prod.fst)[j]? = some q.1 := by rw [List.getElem?_map, h2]; rfl
      rw [ha, List.getElem?_map] at h3
      cases hw : wc[j]? with
      | none => rw [hw] at h3; cases h3
      | some q0 =>
        rw [hw] at h3
        obtain ⟨i, h4, h5⟩ := at' j q0 hw
        have h6 : i = k := Option.some.inj (h4.symm.trans h1)
        subst h6
        exact ⟨q0, h5, Option.some.inj h3⟩
    · exact ⟨q, h2, rfl⟩
  refine ⟨fun k q hq => ?_, fun i j x y hi hj hxy => ?_, fun k q hq => ?_⟩
  · rcases setL_get isC w1 ws k q hlen hq with ⟨j, -, h2⟩ | ⟨h1, h2⟩
    · exact hP1 j q h2
    · have hl := (hP k q h2).lt
      refine (hP k q h2).kept (hk q.1 hl fun h => ?_)
      rcases h with ⟨j, e, h⟩ | h
      · obtain ⟨i, h3, h4⟩ := at' j (q.1, e) h
        have h5 := hD.1 k i q (q.1, e) h2 h4 rfl
        subst h5
        exact h1 (List.mem_of_getElem? h3)
      · omega
  · obtain ⟨x0, h1, h2⟩ := key i x hi
    obtain ⟨y0, h3, h4⟩ := key j y hj
    exact hD.1 i j x0 y0 h1 h3 (h2.trans (hxy.trans h4.symm))
  · obtain ⟨q0, h1, h2⟩ := key k q hq
    rw [← h2]
    exact hD.2 k q0 h1
/-- the end of a method that writes: its answer, its world, nothing else -/
def Qm (D : va_G) (cl : List vw_C) (r : Option Value) (W1 : va_W) (A : Nat → Prop) : Array Value → State → Outcome → State → Prop := fun _ st oc t => oc = .returned r ∧ va_P D cl W1 t.heap ∧ va_F A st t
section WKM
variable {p : Program} {l : Launch} {e : Env} {R : Room} {s : State} {m : MethodId} {args : Array Value} {below : List Frame} {meth : Method} {c : Code} {H : Heap} {locs : List Loc} {cells slots : Nat} {Q : State → Prop}
variable {cc : ByteArray} {pc : Nat} {ls : Array Slot} {rest st0 : List Value} {D : va_G} {cl : List vw_C} {A A0 : Nat → Prop} {a : Array Value} {ws : va_W} {H0 : Heap} {mc ms : Nat}
theorem wk_call {r : Option Value} {W1 wc : va_W} (hr : va_Run p l e R s m args below meth c H locs cells slots mc ms (F0 m pc ls st0) rest (Qm D cl r W1 (va_A wc H.size) a) (va_A wc H.size)) (hP : va_P D cl ws H) (hD : va_D A0 ws) (hS : va_S A0 H0 H locs) (hA : ∀ q, H0.size ≤ q → A0 q) (isC : List Nat) (hC : isC.map (fun i => ws[i]?) = wc.map some) (ha : W1.map Prod.fst = wc.map Prod.fst)
    (kk : ∀ (H1 : Heap) (locs1 : List Loc), va_P D cl (setL ws isC W1) H1 → va_D A0 (setL ws isC W1) → va_S A0 H0 H1 locs1 → W p l e R s m args below meth c H1 locs1 (cells + mc) (slots + ms) Q (F0 m (pc + 3) ls (r.toList ++ rest))) : W p l e R s m args below meth c H locs cells slots Q (F0 m pc ls st0) := by
  intro T hT X
  obtain ⟨v, st₀, t, T', L, h0, X', hL, e1, e2, ⟨hv, hp1, hz, hk⟩, st⟩ := hr T hT X
  cases hv
  rw [h0] at hz hk
  have hF := va_free hD hS hA isC hC
  obtain ⟨hP2, hD2⟩ := wk_frame hP hD isC hC ha hk hp1
  obtain ⟨t2, a1, b1⟩ := kk T'.heap (locs ++ L) (by rw [e1]; exact hP2) hD2
    ⟨Nat.le_trans hS.1 (by rw [e1]; exact hz), fun q h1 h2 => by rw [e1, hk q (Nat.lt_of_lt_of_le h1 hS.1) (fun z => h2 (hF q z))]; exact hS.2.1 q h1 h2, fun q hq => by
      rcases List.mem_append.mp hq with h | h
      · exact hS.2.2 q h
      · exact hF _ (hL q h)⟩ T' rfl X'
  exact ⟨t2, st t2 a1, b1⟩
theorem wk_mret {v : Int32} {r : Option Value} {W1 : va_W} (hexec : p.tables.exec = Jvm.exec) (hb : c.code = cc) (hr : meth.sig.returnType = some .int) (hlocks : meth.locks = false) (hdg : decode cc pc = .ok (.ireturn, 1)) (hP : va_P D cl W1 H) (hS : va_S A s.heap H locs) (he : some (Value.int v) = r) : W p l e R s m args below meth c H locs cells slots (MQ below (Qm D cl r W1 A) args s cells slots A) (F0 m pc ls [.int v]) := by
  subst he
  exact W.iret hexec hb hr (fun t ht _ => ⟨rfl, by rw [ht]; exact hP, hS.F ht⟩) hS.2.2 hdg hlocks
theorem wk_mvret {W1 : va_W} (hexec : p.tables.exec = Jvm.exec) (hb : c.code = cc) (hr : meth.sig.returnType = none) (hlocks : meth.locks = false) (hdg : decode cc pc = .ok (.return_, 1)) (hP : va_P D cl W1 H) (hS : va_S A s.heap H locs) : W p l e R s m args below meth c H locs cells slots (MQ below (Qm D cl none W1 A) args s cells slots A) (F0 m pc ls []) :=
  W.vret hexec hb hr (fun t ht _ => ⟨rfl, by rw [ht]; exact hP, hS.F ht⟩) hS.2.2 hdg hlocks
theorem wk_mlret {v : Int64} {r : Option Value} {W1 : va_W} (hexec : p.tables.exec = Jvm.exec) (hb : c.code = cc) (hr : meth.sig.returnType = some .long) (hlocks : meth.locks = false) (hdg : decode cc pc = .ok (.lreturn, 1)) (hP : va_P D cl W1 H) (hS : va_S A s.heap H locs) (he : some (Value.long v) = r) : W p l e R s m args below meth c H locs cells slots (MQ below (Qm D cl r W1 A) args s cells slots A) (F0 m pc ls [.long v]) := by
  subst he
  exact W.lret hexec hb hr (fun t ht _ => ⟨rfl, by rw [ht]; exact hP, hS.F ht⟩) hS.2.2 hdg hlocks
end WKM
/-! what a method asks of its start -/
abbrev GG : Type := va_G × ClassId × ClassId × ClassId × ClassId
abbrev gC (G : GG) : ClassId := G.2.1
abbrev gI (G : GG) : ClassId := G.2.2.1
abbrev gZ (G : GG) : ClassId := G.2.2.2.1
abbrev gO (G : GG) : ClassId := G.2.2.2.2
def tysG (G : GG) : List (ClassId × FieldType) := [(gC G, .char), (gI G, .int), (gZ G, .boolean), (gO G, .object RX2)]
def nwL : List Cond := [.methodLinkNest RX6 40 yX7_bit RX7, .methodLinkNest RX6 86 yX7_isWithin RX7, .methodLinkNest RX4 37 yX7_isWithin RX7, .methodLinkNest RX4 44 yX7_bit RX7, .methodLinkNest RX3 24 yX2_init RX7, .methodLinkNest RX7 19 yX0_init RX7, .methodLinkNest RX7 38 yX2_init RX7]
def NW (U : State) : Prop := va_Nw (.methodLinkNest RX6 40 yX7_bit RX7) U ∧ va_Nw (.methodLinkNest RX6 86 yX7_isWithin RX7) U ∧ va_Nw (.methodLinkNest RX4 37 yX7_isWithin RX7) U ∧ va_Nw (.methodLinkNest RX4 44 yX7_bit RX7) U ∧ va_Nw (.methodLinkNest RX3 24 yX2_init RX7) U ∧ va_Nw (.methodLinkNest RX7 19 yX0_init RX7) U ∧ va_Nw (.methodLinkNest RX7 38 yX2_init RX7) U
theorem NW.same {u U : State} (h : u.vm = U.vm) (hZ : NW u) : NW U := by
  obtain ⟨h1, h2, h3, h4, h5, h6, h7⟩ := hZ
  exact ⟨h1.same rfl h, h2.same rfl h, h3.same rfl h, h4.same rfl h, h5.same rfl h, h6.same rfl h, h7.same rfl h⟩
theorem NW.warm {s U : State} (hW : s.WarmedH U.vm) (hZ : NW s) : NW U := by
  obtain ⟨h1, h2, h3, h4, h5, h6, h7⟩ := hZ
  exact ⟨h1.warmM hW, h2.warmM hW, h3.warmM hW, h4.warmM hW, h5.warmM hW, h6.warmM hW, h7.warmM hW⟩
/-- the start of a method: its world in the heap, the tables -/
def PreW (G : GG) (W0 : va_W) (U : State) (H : Heap) : Prop := va_P G.1 vwCl W0 H ∧ va_K G.1 vwCl (tysG G) U ∧ NW U
theorem PreW.blind {G : GG} {W0 : va_W} {av : List Value} : FrameBlind (va_Pc av (fun U => PreW G W0 U U.heap)) := by
  intro a U g mk h
  obtain ⟨h0, h1, h2, h3⟩ := h
  exact ⟨h0, h1, va_K.moved (u := U) (U := U.calling g mk a) (Vm.Alike.refl U.vm) h2, h3.same rfl⟩
theorem PreW.mv {G : GG} {W0 : va_W} {s U : State} {H : Heap} (h : PreW G W0 s H) (hU : U.heap = H) (hW : s.WarmedH U.vm) : PreW G W0 U U.heap := ⟨by rw [hU]; exact h.1, va_K.moved hW.alike h.2.1, h.2.2.warm hW⟩
theorem PreW.sub {G : GG} {W0 W1 : va_W} {s : State} {H : Heap} (h : PreW G W0 s H) (is : List Nat) (hs : is.filterMap (fun i => W0[i]?) = W1) : PreW G W1 s H := ⟨h.1.sub is hs, h.2⟩
theorem PreW.pre {G : GG} {W0 : va_W} {s : State} {H : Heap} (h : PreW G W0 s H) {b ci q0 : Nat} {q : vw_C} {fs : List Value} (hc : vwCl[ci]? = some q) (he : W0[q0]? = some (b, .inr (ci, fs))) {As : List Value} : PreV s H q.1 b (va_Pc (.ref b :: As) (fun U => PreW G W0 U U.heap)) As :=
  ⟨PreW.blind, va_recv h.2.1 h.1 hc he, fun _ hU hW => ⟨rfl, h.mv hU hW⟩⟩
theorem PreW.preS {G : GG} {W0 : va_W} {s : State} {H : Heap} (h : PreW G W0 s H) {As : List Value} : PreS s H (va_Pc As (fun U => PreW G W0 U U.heap)) As :=
  ⟨PreW.blind, fun _ hU hW => ⟨rfl, h.mv hU hW⟩⟩
/-- the start of a method that writes -/
def PreM (G : GG) (W0 : va_W) (sz : Nat) (U : State) (H : Heap) : Prop := PreW G W0 U H ∧ va_D (fun _ => True) W0 ∧ H.size = sz
theorem PreM.blind {G : GG} {W0 : va_W} {sz : Nat} {av : List Value} : FrameBlind (va_Pc av (fun U => PreM G W0 sz U U.heap)) := by
  intro a U g mk h
  obtain ⟨h0, ⟨h1, h2, h3⟩, h4, h5⟩ := h
  exact ⟨h0, ⟨h1, va_K.moved (u := U) (U := U.calling g mk a) (Vm.Alike.refl U.vm) h2, h3.same rfl⟩, h4, h5⟩
theorem PreM.mv {G : GG} {W0 : va_W} {sz : Nat} {s U : State} {H : Heap} (h : PreM G W0 sz s H) (hU : U.heap = H) (hW : s.WarmedH U.vm) : PreM G W0 sz U U.heap := ⟨h.1.mv hU hW, h.2.1, by rw [hU]; exact h.2.2⟩
/-- out of the caller's world: the callee's part -/
theorem PreM.of {G : GG} {W0 W1 : va_W} {A0 : Nat → Prop} {s : State} {H : Heap} (hP : va_P G.1 vwCl W0 H) (hK : va_K G.1 vwCl (tysG G) s) (hN : NW s) (hD : va_D A0 W0) (is : List Nat) (hn : va_nd is = true) (hs : is.map (fun i => W0[i]?) = W1.map some) : PreM G W1 H.size s H := by
  have hs2 : is.filterMap (fun i => W0[i]?) = W1 := by
    have : (is.map (fun i => W0[i]?)).filterMap id = W1 := by rw [hs]; simp
    rw [← this]; simp [List.filterMap_map]
  exact ⟨⟨hP.sub is hs2, hK, hN⟩, (hD.sub is hn hs).weaken (fun _ _ _ _ => trivial), rfl⟩
theorem PreM.pre {G : GG} {W0 : va_W} {sz : Nat} {s : State} {H : Heap} (h : PreM G W0 sz s H) {b ci q0 : Nat} {q : vw_C} {fs : List Value} (hc : vwCl[ci]? = some q) (he : W0[q0]? = some (b, .inr (ci, fs))) {As : List Value} : PreV s H q.1 b (va_Pc (.ref b :: As) (fun U => PreM G W0 sz U U.heap)) As :=
  ⟨PreM.blind, va_recv h.1.2.1 h.1.1 hc he, fun _ hU hW => ⟨rfl, h.mv hU hW⟩⟩
theorem PreM.preS {G : GG} {W0 : va_W} {sz : Nat} {s : State} {H : Heap} (h : PreM G W0 sz s H) {As : List Value} : PreS s H (va_Pc As (fun U => PreM G W0 sz U U.heap)) As :=
  ⟨PreM.blind, fun _ hU hW => ⟨rfl, h.mv hU hW⟩⟩
/-- truth values as ints -/
def b2i (b : Bool) : Int32 := if b then 1 else 0
theorem b2i_f {b : Bool} (h : b2i b = 0) : b = false := by cases b; rfl; exact absurd h (by decide)
theorem b2i_t {b : Bool} (h : ¬ b2i b = 0) : b = true := by cases b; exact absurd rfl h; rfl
theorem b2i_nar (b : Bool) : narrow .boolean (.int (b2i b)) = .int (b2i b) := by cases b <;> rfl
theorem b2i_fit (b : Bool) : fits .boolean (.int (b2i b)) = true := by cases b <;> rfl
theorem b2i_vnar (b : Bool) : vp_nar .boolean (b2i b) = b2i b := by cases b <;> rfl
theorem b2i_inj {x y : Bool} (h : b2i x = b2i y) : x = y := by cases x <;> cases y <;> first | rfl | exact absurd h (by decide)
theorem b2i_ninj {x y : Bool} (h : ¬ b2i x = b2i y) : ¬ x = y := fun q => h (congrArg b2i q)
theorem b2i_ct {P : Prop} [Decidable P] (h : P) : (1 : Int32) = b2i (decide P) := by simp [b2i, h]
theorem b2i_cf {P : Prop} [Decidable P] (h : ¬ P) : (0 : Int32) = b2i (decide P) := by simp [b2i, h]
/-- a count of rounds -/
def fo {α : Type} (f : Nat → α → α) (x : α) : Nat → α
  | 0 => x
  | n + 1 => f n (fo f x n)
theorem fo_s {α : Type} (f : Nat → α → α) (x : α) (n : Nat) : fo f x (n + 1) = f n (fo f x n) := rfl
theorem fo_0 {α : Type} (f : Nat → α → α) (x : α) : fo f x 0 = x := rfl
theorem fo_cong {α : Type} {f g : Nat → α → α} {x : α} : ∀ {n : Nat}, (∀ i y, i < n → f i y = g i y) → fo f x n = fo g x n
  | 0, _ => rfl
  | n + 1, h => by
    rw [fo_s, fo_s, fo_cong (n := n) (fun i y hi => h i y (Nat.lt_succ_of_lt hi)), h n _ (Nat.lt_succ_self n)]
theorem wk_i1 (n : Nat) : nI n + Int32.ofInt 1 = nI (n + 1) := nI_1 n
theorem wk_i4 (n : Nat) : nI n + Int32.ofInt 4 = nI (n + 4) := nI_add n 4
section WKC
variable {p : Program} {l : Launch} {e : Env} {R : Room} {s : State} {m : MethodId} {args : Array Value} {below : List Frame} {meth : Method} {c : Code} {H : Heap} {locs : List Loc} {cells slots : Nat} {Q : State → Prop}
variable {pc : Nat} {ls : Array Slot} {st : List Value}
/-- where two ways meet: a number on top, known by P -/
theorem wk_cut (pc2 : Nat) (rest : List Value) (P : Int32 → Prop) (k : ∀ x : Int32, P x → W p l e R s m args below meth c H locs cells slots Q (F0 m pc2 ls (.int x :: rest))) (j : (∀ x : Int32, P x → W p l e R s m args below meth c H locs cells slots Q (F0 m pc2 ls (.int x :: rest))) → W p l e R s m args below meth c H locs cells slots Q (F0 m pc ls st)) : W p l e R s m args below meth c H locs cells slots Q (F0 m pc ls st) := j k
end WKC
/-! the state of the class -/
abbrev Ar : Type := Nat → Int32
/-- what the text tells: things, officers, warmth, sort, votes, bills, first holders -/
abbrev Cn : Type := Nat × Nat × Int32 × Ar × Ar × Ar × Ar
abbrev kT (k : Cn) : Nat := k.1
abbrev kO (k : Cn) : Nat := k.2.1
abbrev kW (k : Cn) : Int32 := k.2.2.1
abbrev kS (k : Cn) : Ar := k.2.2.2.1
abbrev kV (k : Cn) : Ar := k.2.2.2.2.1
abbrev kB (k : Cn) : Ar := k.2.2.2.2.2.1
abbrev kF (k : Cn) : Ar := k.2.2.2.2.2.2
/-- a moment: holder, warmth, wash, turned, sick, put, passed -/
abbrev Mo : Type := Ar × Ar × Int32 × Int32 × Int32 × Int32 × Int32
abbrev mH (o : Mo) : Ar := o.1
abbrev mW (o : Mo) : Ar := o.2.1
abbrev mWa (o : Mo) : Int32 := o.2.2.1
abbrev mTu (o : Mo) : Int32 := o.2.2.2.1
abbrev mSi (o : Mo) : Int32 := o.2.2.2.2.1
abbrev mPu (o : Mo) : Int32 := o.2.2.2.2.2.1
abbrev mPa (o : Mo) : Int32 := o.2.2.2.2.2.2
/-- the record: bills, outcomes, lines -/
abbrev Mi : Type := Ar × (Nat → Bool) × Nat
abbrev iB (i : Mi) : Ar := i.1
abbrev iO (i : Mi) : Nat → Bool := i.2.1
abbrev iL (i : Mi) : Nat := i.2.2
/-- the reader: length, place, token, the token's place, number, fault, whether warmth was told -/
abbrev Rd : Type := Nat × Nat × Int32 × Nat × Nat × Int32 × Bool
/-- text, letters, told, draft, reader, moment, record, next, known, ring, images, kept, traced -/
abbrev CX : Type := Ar × Nat × Cn × Cn × Rd × Mo × Mi × Nat × Nat × (Nat → Mo) × (Nat → Mo) × Int32 × Int64
abbrev cTx (c : CX) : Ar := c.1
abbrev cLe (c : CX) : Nat := c.2.1
abbrev cK (c : CX) : Cn := c.2.2.1
abbrev cDr (c : CX) : Cn := c.2.2.2.1
abbrev cRd (c : CX) : Rd := c.2.2.2.2.1
abbrev cM (c : CX) : Mo := c.2.2.2.2.2.1
abbrev cI (c : CX) : Mi := c.2.2.2.2.2.2.1
abbrev cNx (c : CX) : Nat := c.2.2.2.2.2.2.2.1
abbrev cKn (c : CX) : Nat := c.2.2.2.2.2.2.2.2.1
abbrev cRi (c : CX) : Nat → Mo := c.2.2.2.2.2.2.2.2.2.1
abbrev cIm (c : CX) : Nat → Mo := c.2.2.2.2.2.2.2.2.2.2.1
abbrev cKe (c : CX) : Int32 := c.2.2.2.2.2.2.2.2.2.2.2.1
abbrev cTr (c : CX) : Int64 := c.2.2.2.2.2.2.2.2.2.2.2.2
abbrev eMain (a : Nat → Nat) (c : CX) : Nat × va_E := (a 0, .inr (7, [.ref (a 15), .int (nI (cLe c)), .ref (a 1), .ref (a 16), .ref (a 21), .ref (a 6), .ref (a 9), .ref (a 10), .ref (a 11), .ref (a 14), .ref (a 53), .int (cKe c), .long (cTr c)]))
abbrev eCn (a : Nat → Nat) (i : Nat) (k : Cn) : Nat × va_E := (a i, .inr (0, [.int (nI (kT k)), .int (nI (kO k)), .int (kW k), .ref (a (i + 1)), .ref (a (i + 2)), .ref (a (i + 3)), .ref (a (i + 4))]))
abbrev eMo (a : Nat → Nat) (i : Nat) (o : Mo) : Nat × va_E := (a i, .inr (2, [.ref (a (i + 1)), .ref (a (i + 2)), .int (mWa o), .int (mTu o), .int (mSi o), .int (mPu o), .int (mPa o)]))
abbrev eAr (G : GG) (a : Nat → Nat) (i n : Nat) (f : Ar) : Nat × va_E := (a i, .inl (gI G, n, .inl f))
/-- what the methods that only read need of the class: 0 main, 1 told (2 .. 5), 6 moment (7, 8), 9 vote, 10 power, 11 minutes (12, 13), 14 past -/
def WR (G : GG) (a : Nat → Nat) (c : CX) : va_W := [eMain a c, eCn a 1 (cK c), eAr G a 2 7 (kS (cK c)), eAr G a 3 7 (kV (cK c)), eAr G a 4 7 (kB (cK c)), eAr G a 5 7 (kF (cK c)), eMo a 6 (cM c), eAr G a 7 7 (mH (cM c)), eAr G a 8 7 (mW (cM c)), (a 9, .inr (6, [.ref (a 1), .ref (a 6)])), (a 10, .inr (4, [.ref (a 9)])), (a 11, .inr (1, [.ref (a 9), .ref (a 12), .ref (a 13), .int (nI (iL (cI c)))])), eAr G a 12 6 (iB (cI c)), (a 13, .inl (gZ G, 6, .inl (fun j => b2i (iO (cI c) j)))), (a 14, .inr (3, [.ref (a 22), .int (nI (cNx c)), .int (nI (cKn c))]))]
/-- what keeps every index in its row -/
def OkR (c : CX) : Prop := kT (cK c) ≤ 7 ∧ 1 ≤ kO (cK c) ∧ kO (cK c) ≤ 5 ∧ iL (cI c) ≤ 6 ∧ cLe c ≤ 200 ∧ cNx c < 10 ∧ cKn c ≤ 10
/-! words of the pure side -/
def bitI (x y : Int32) : Int32 := (x >>> (y &&& 31)) &&& 1
def iv (x : Int32) : Int32 := x ^^^ (-1)
def sh1 (y : Int32) : Int32 := (1 : Int32) <<< (y &&& 31)
/-! switches -/
theorem wk_sw0_2 (x : Int32) : x = 0 ∨ x = 1 ∨ x = 2 ∨ (x.toInt < 0 ∨ 2 < x.toInt) := by
  by_cases h : x.toInt < 0 ∨ 2 < x.toInt
  · simp only [h, or_true]
  · have h1 : ¬ x < 0 := fun q => h (Or.inl (Int32.lt_iff_toInt_lt.mp q))
    obtain ⟨j, hj, rfl⟩ := nI_of h1
    have h2 := nI_toInt hj
    have h3 : j ≤ 2 := by omega
    have h4 : j = 0 ∨ j = 1 ∨ j = 2 := by omega
    rcases h4 with rfl | rfl | rfl <;> decide
theorem wk_sw0_3 (x : Int32) : x = 0 ∨ x = 1 ∨ x = 2 ∨ x = 3 ∨ (x.toInt < 0 ∨ 3 < x.toInt) := by
  by_cases h : x.toInt < 0 ∨ 3 < x.toInt
  · simp only [h, or_true]
  · have h1 : ¬ x < 0 := fun q => h (Or.inl (Int32.lt_iff_toInt_lt.mp q))
    obtain ⟨j, hj, rfl⟩ := nI_of h1
    have h2 := nI_toInt hj
    have h3 : j ≤ 3 := by omega
    have h4 : j = 0 ∨ j = 1 ∨ j = 2 ∨ j = 3 := by omega
    rcases h4 with rfl | rfl | rfl | rfl <;> decide
theorem wk_sw0_4 (x : Int32) : x = 0 ∨ x = 1 ∨ x = 2 ∨ x = 3 ∨ x = 4 ∨ (x.toInt < 0 ∨ 4 < x.toInt) := by
  by_cases h : x.toInt < 0 ∨ 4 < x.toInt
  · simp only [h, or_true]
  · have h1 : ¬ x < 0 := fun q => h (Or.inl (Int32.lt_iff_toInt_lt.mp q))
    obtain ⟨j, hj, rfl⟩ := nI_of h1
    have h2 := nI_toInt hj
    have h3 : j ≤ 4 := by omega
    have h4 : j = 0 ∨ j = 1 ∨ j = 2 ∨ j = 3 ∨ j = 4 := by omega
    rcases h4 with rfl | rfl | rfl | rfl | rfl <;> decide
theorem wk_sw0_5 (x : Int32) : x = 0 ∨ x = 1 ∨ x = 2 ∨ x = 3 ∨ x = 4 ∨ x = 5 ∨ (x.toInt < 0 ∨ 5 < x.toInt) := by
  by_cases h : x.toInt < 0 ∨ 5 < x.toInt
  · simp only [h, or_true]
  · have h1 : ¬ x < 0 := fun q => h (Or.inl (Int32.lt_iff_toInt_lt.mp q))
    obtain ⟨j, hj, rfl⟩ := nI_of h1
    have h2 := nI_toInt hj
    have h3 : j ≤ 5 := by omega
    have h4 : j = 0 ∨ j = 1 ∨ j = 2 ∨ j = 3 ∨ j = 4 ∨ j = 5 := by omega
    rcases h4 with rfl | rfl | rfl | rfl | rfl | rfl <;> decide
theorem wk_sw0_7 (x : Int32) : x = 0 ∨ x = 1 ∨ x = 2 ∨ x = 3 ∨ x = 4 ∨ x = 5 ∨ x = 6 ∨ x = 7 ∨ (x.toInt < 0 ∨ 7 < x.toInt) := by
  by_cases h : x.toInt < 0 ∨ 7 < x.toInt
  · simp only [h, or_true]
  · have h1 : ¬ x < 0 := fun q => h (Or.inl (Int32.lt_iff_toInt_lt.mp q))
    obtain ⟨j, hj, rfl⟩ := nI_of h1
    have h2 := nI_toInt hj
    have h3 : j ≤ 7 := by omega
    have h4 : j = 0 ∨ j = 1 ∨ j = 2 ∨ j = 3 ∨ j = 4 ∨ j = 5 ∨ j = 6 ∨ j = 7 := by omega
    rcases h4 with rfl | rfl | rfl | rfl | rfl | rfl | rfl | rfl <;> decide
/-! counts, all, the first of a row -/
def allB (p : Nat → Bool) : Nat → Bool
  | 0 => true
  | n + 1 => allB p n && p n
theorem allB_no {p : Nat → Bool} : ∀ {n i : Nat}, i < n → p i = false → allB p n = false
  | 0, i, h, _ => absurd h (Nat.not_lt_zero i)
  | n + 1, i, h, hp => by
    rcases Nat.lt_or_ge i n with q | q
    · rw [allB, allB_no q hp, Bool.false_and]
    · have e : i = n := by omega
      subst e
      rw [allB, hp, Bool.and_false]
theorem allB_iff {p : Nat → Bool} : ∀ {n : Nat}, allB p n = true ↔ ∀ i, i < n → p i = true
  | 0 => ⟨fun _ i h => absurd h (Nat.not_lt_zero i), fun _ => rfl⟩
  | n + 1 => by
    rw [allB, Bool.and_eq_true, allB_iff (n := n)]
    refine ⟨fun h i hi => ?_, fun h => ⟨fun i hi => h i (by omega), h n (by omega)⟩⟩
    rcases Nat.lt_or_ge i n with q | q
    · exact h.1 i q
    · have e : i = n := by omega
      subst e
      exact h.2
def firB (p : Nat → Bool) : Nat → Int32
  | 0 => -9
  | n + 1 => if firB p n = -9 then (if p n then nI n else -9) else firB p n
theorem firB_no {p : Nat → Bool} : ∀ {n : Nat}, (∀ i, i < n → p i = false) → firB p n = -9
  | 0, _ => rfl
  | n + 1, h => by rw [firB, firB_no (n := n) (fun i hi => h i (by omega)), if_pos rfl, h n (by omega)]; rfl
theorem firB_yes {p : Nat → Bool} {i : Nat} (h1 : ∀ j, j < i → p j = false) (h2 : p i = true) (hi : i < 2 ^ 31) : ∀ {n : Nat}, i < n → firB p n = nI i
  | 0, h => absurd h (Nat.not_lt_zero i)
  | n + 1, h => by
    rcases Nat.lt_or_ge i n with q | q
    · rw [firB, firB_yes h1 h2 hi q, if_neg]
      intro z
      exact nI_pos hi (by rw [z]; decide)
    · have e : i = n := by omega
      subst e
      rw [firB, firB_no h1, if_pos rfl, h2]; rfl
def cntB (p : Nat → Bool) : Nat → Int32 := fo (fun i r => if p i then r + 1 else r) 0
end
section
/-! the class's own answers, as it reckons them -/
def pWithin (x y : Int32) : Bool := decide (x &&& (iv y) = 0)
def pAbleF (k : Cn) (o : Mo) : Nat → Int32 := fo (fun t r => if kS k t = 3 then r else if kS k t = 1 then (if mW o t = 0 then r else r ||| sh1 (nI t)) else r ||| sh1 (nI t)) 0
def pAble (k : Cn) (o : Mo) : Int32 := pAbleF k o (kT k) &&& (iv (mWa o))
def pHeldF (o : Mo) (offs : Int32) : Nat → Int32 := fo (fun t r => if bitI offs (mH o t) = 1 then r ||| sh1 (nI t) else r) 0
def pHeld (k : Cn) (o : Mo) (offs : Int32) : Int32 := pHeldF o offs (kT k)
def pVoicesIf (k : Cn) (o : Mo) (sick : Int32) : Int32 := pAble k o &&& (iv (pHeld k o sick))
def pVoices (k : Cn) (o : Mo) : Int32 := pVoicesIf k o (mSi o)
def pVotesF (k : Cn) (set : Int32) : Nat → Int32 := fo (fun t r => if bitI set (nI t) = 1 then r + kV k t else r) 0
def pVotes (k : Cn) (set : Int32) : Int32 := pVotesF k set (kT k)
def pYesF (k : Cn) (b : Int32) : Nat → Int32 := fo (fun t r => r ||| (bitI (kB k t) b <<< (nI t &&& 31))) 0
def pYes (k : Cn) (o : Mo) (b : Int32) : Int32 := pYesF k b (kT k) ^^^ mTu o
def pYesIf (k : Cn) (o : Mo) (b t bills : Int32) : Int32 := (pYes k o b &&& (iv (sh1 t))) ||| ((bitI bills b ^^^ bitI (mTu o) t) <<< (t &&& 31))
def pPassBy (k : Cn) (voices yes : Int32) : Bool := decide (pVotes k (voices &&& (iv yes)) < pVotes k (voices &&& yes))
def pPasses (k : Cn) (o : Mo) (b : Int32) : Bool := pPassBy k (pVoices k o) (pYes k o b)
def pVHeld (k : Cn) (o : Mo) (f : Int32) : Int32 := pVotes k (pVoices k o &&& pHeld k o (sh1 f))
def pMostF (k : Cn) (o : Mo) : Nat → Int32 × Int32 := fo (fun i r => if r.2 < pVHeld k o (nI (i + 1)) then (nI (i + 1), pVHeld k o (nI (i + 1))) else r) ((0 : Int32), pVHeld k o 0)
def pMost (k : Cn) (o : Mo) : Int32 := (pMostF k o (kO k - 1)).1
def pSwayF (k : Cn) (o : Mo) (b : Int32) : Nat → Int32 := fo (fun t r => if pVoices k o &&& sh1 (nI t) = 0 then r else if pPassBy k (pVoices k o &&& (iv (sh1 (nI t)))) (pYes k o b) = pPassBy k (pVoices k o) (pYes k o b) then r else r ||| sh1 (nI t)) 0
def pSway (k : Cn) (o : Mo) (b : Int32) : Int32 := pSwayF k o b (kT k)
/-- Integer.bitCount, as the library reckons it -/
def pPop (x : Int32) : Int32 :=
  let u := fun (a b : Int32) => (a.toUInt32 >>> (b.toUInt32 &&& Int32.toUInt32 31)).toInt32
  let x1 := x - (u x 1 &&& 1431655765)
  let x2 := (x1 &&& 858993459) + (u x1 2 &&& 858993459)
  let x3 := (x2 + u x2 4) &&& 252645135
  let x4 := x3 + u x3 8
  let x5 := x4 + u x4 16
  x5 &&& 63
def pFewer (x y : Int32) : Bool := decide (y = -9 ∨ pPop x < pPop y)
def pTurnF (k : Cn) (o : Mo) (b : Int32) : Nat → Int32 := fo (fun i r => if pWithin (nI i) (pVoices k o) && pFewer (nI i) r && pPassBy k (pVoices k o) (pYes k o b ^^^ nI i) then nI i else r) (-9)
def pTurn (k : Cn) (o : Mo) (b : Int32) : Int32 := pTurnF k o b 128
def pWell (k : Cn) (o : Mo) : Bool := decide (pPop (mSi o) < nI (kO k))
def pMov (k : Cn) (o : Mo) : Int32 := if pWell k o then pHeld k o (mSi o) else 0
def pHandF (k : Cn) (o : Mo) (b : Int32) : Nat → Int32 := fo (fun i r => if pWithin (nI i) (pMov k o) && pFewer (nI i) r && pPassBy k (pVoices k o ||| (nI i &&& pAble k o)) (pYes k o b) then nI i else r) (-9)
def pHand (k : Cn) (o : Mo) (b : Int32) : Int32 := pHandF k o b 128
def pExch (x t u : Int32) : Int32 := (x ^^^ ((bitI x t ^^^ bitI x u) <<< (t &&& 31))) ^^^ ((bitI x t ^^^ bitI x u) <<< (u &&& 31))
def pSwapP (k : Cn) (o : Mo) (b : Int32) (t u : Nat) : Bool := !decide (mH o t = mH o u) && !decide (pPassBy k (pAble k o &&& pExch (iv (pHeld k o (mSi o))) (nI t) (nI u)) (pYes k o b) = pPassBy k (pAble k o &&& (iv (pHeld k o (mSi o)))) (pYes k o b))
def pSwapG (k : Cn) (o : Mo) (b : Int32) (t : Nat) (r : Int32) : Nat → Int32 := fo (fun i q => if pSwapP k o b t (t + 1 + i) then q + 1 else q) r
def pSwapF (k : Cn) (o : Mo) (b : Int32) : Nat → Int32 := fo (fun t r => pSwapG k o b t r (kT k - (t + 1))) 0
def pSwap (k : Cn) (o : Mo) (b : Int32) : Int32 := pSwapF k o b (kT k)
def pChanF : Nat → Int32 := fo (fun _ r => r * 10) 1
def pChan (k : Cn) : Int32 := pChanF (kO k)
def pChSF (sick p : Int32) : Nat → Int32 := fo (fun i r => r * (if bitI sick (nI i) = 1 then p else 10 - p)) 1
def pChS (k : Cn) (sick p : Int32) : Int32 := pChSF sick p (kO k)
def pChPF (k : Cn) (o : Mo) (b p : Int32) : Nat → Int32 := fo (fun i r => if pPassBy k (pVoicesIf k o (nI i)) (pYes k o b) then r + pChS k (nI i) p else r) 0
def pChP (k : Cn) (o : Mo) (b p : Int32) : Int32 := pChPF k o b p (2 ^ kO k)
/-- the orders of so many, by the table -/
def facT (j : Nat) : Int32 := match j with
  | 0 => 1
  | 1 => 1
  | 2 => 2
  | 3 => 6
  | 4 => 24
  | 5 => 120
  | 6 => 720
  | _ => 5040
def pOrd (x : Int32) : Int32 := if x < 0 then 0 else if x < 8 then facT x.toNatClampNeg else 0
def pCar (k : Cn) (set voices : Int32) : Bool := decide (pVotes k voices < 2 * pVotes k set)
def pOrders (k : Cn) (o : Mo) : Int32 := pOrd (pPop (pVoices k o))
def pDecF (k : Cn) (t : Nat) (v : Int32) : Nat → Int32 := fo (fun i r => if pWithin (nI i) (v &&& (iv (sh1 (nI t)))) && !pCar k (nI i) v && pCar k (nI i ||| sh1 (nI t)) v then r + pOrd (pPop (nI i)) * pOrd (pPop ((v &&& (iv (sh1 (nI t)))) &&& (iv (nI i)))) else r) 0
def pDec (k : Cn) (t : Nat) (v : Int32) : Int32 := if v &&& (iv (sh1 (nI t))) = v then 0 else pDecF k t v 128
def pLessF (k : Cn) (o : Mo) : Nat → Int32 := fo (fun t r => if bitI (pVoices k o) (nI t) = 1 then (if pDec k t (pVoices k o) = 0 then r ||| sh1 (nI t) else r) else r) 0
def pLess (k : Cn) (o : Mo) : Int32 := pLessF k o 7
def pLeaB (k : Cn) (set v : Int32) (t : Nat) : Bool := !(decide (bitI set (nI t) = 1) && pCar k (set &&& (iv (sh1 (nI t)))) v)
def pLea (k : Cn) (set v : Int32) : Bool := pWithin set v && pCar k set v && allB (pLeaB k set v) 7
def pLeaN (k : Cn) (o : Mo) : Int32 := cntB (fun i => pLea k (nI i) (pVoices k o)) 128
def pLea1 (k : Cn) (o : Mo) : Int32 := firB (fun i => pLea k (nI i) (pVoices k o)) 128
def pSoForB (k : Cn) (o : Mo) (i : Mi) (t set voices : Int32) (j : Nat) : Bool := decide (pPassBy k voices (pYesIf k o (iB i j) t set) = iO i j)
def pSoFor (k : Cn) (o : Mo) (i : Mi) (t set voices : Int32) : Bool := allB (pSoForB k o i t set voices) (iL i)
def pSoSickB (k : Cn) (o : Mo) (i : Mi) (sick : Int32) (j : Nat) : Bool := decide (pPassBy k (pVoicesIf k o sick) (pYes k o (iB i j)) = iO i j)
def pSoSick (k : Cn) (o : Mo) (i : Mi) (sick : Int32) : Bool := allB (pSoSickB k o i sick) (iL i)
def pPosN (k : Cn) (o : Mo) (i : Mi) (t : Int32) : Int32 := cntB (fun j => pSoFor k o i t (nI j) (pVoices k o)) 32
def pPos1 (k : Cn) (o : Mo) (i : Mi) (t : Int32) : Int32 := firB (fun j => pSoFor k o i t (nI j) (pVoices k o)) 32
def pWhoF (k : Cn) (o : Mo) (i : Mi) : Nat → Int32 := fo (fun f r => if pSoSick k o i (sh1 (nI f)) then r ||| sh1 (nI f) else r) (if pSoSick k o i 0 then 32 else 0)
def pWho (k : Cn) (o : Mo) (i : Mi) : Int32 := pWhoF k o i (kO k)
def gcdF : Nat → Int32 → Int32 → Int32
  | 0, x, _ => x
  | n + 1, x, y => if y = 0 then x else gcdF n y (x - x / y * y)
def pGcd (x y : Int32) : Int32 := gcdF 64 x y
def pTerm (x y w : Int32) : Int32 := if pGcd x y = 0 then w else if w = 0 then x / pGcd x y else y / pGcd x y
def pNoT (k : Cn) (t : Int32) : Bool := decide (t < 0 ∨ nI (kT k) ≤ t)
def pNoO (k : Cn) (t : Int32) : Bool := decide (t < 0 ∨ nI (kO k) ≤ t)
def pNoB (t : Int32) : Bool := decide (t < 0 ∨ 5 ≤ t)
def pNoW (t : Int32) : Bool := decide (t < 0 ∨ 1 < t)
def pNoI (t : Int32) : Bool := decide (t < 0 ∨ 2 ≤ t)
def pFreeF (k : Cn) (o : Mo) : Nat → Int32 := fo (fun b r => r &&& (iv (pSway k o (nI b)))) (pVoices k o)
def pFree (k : Cn) (o : Mo) : Int32 := pFreeF k o 5
/-! the public answers that change nothing -/
def xThing (c : CX) (t w : Int32) : Int32 := if pNoT (cK c) t then -1 else if w = 0 then kS (cK c) t.toNatClampNeg else if w = 1 then kV (cK c) t.toNatClampNeg else if w = 2 then kB (cK c) t.toNatClampNeg else if w = 3 then mH (cM c) t.toNatClampNeg else if w = 4 then bitI (mWa (cM c)) t else if w = 5 then bitI (mTu (cM c)) t else if w = 6 then mW (cM c) t.toNatClampNeg else if w = 7 then bitI (pVoices (cK c) (cM c)) t else -1
def xOff (c : CX) (f w : Int32) : Int32 := if pNoO (cK c) f then -1 else if w = 0 then bitI (mSi (cM c)) f else if w = 1 then pHeld (cK c) (cM c) (sh1 f) else if w = 2 then pVHeld (cK c) (cM c) f else -1
def xBill (c : CX) (b w : Int32) : Int32 := if pNoB b then -1 else if w = 0 then pVotes (cK c) (pVoices (cK c) (cM c) &&& pYes (cK c) (cM c) b) else if w = 1 then pVotes (cK c) (pVoices (cK c) (cM c) &&& (iv (pYes (cK c) (cM c) b))) else if w = 2 then b2i (pPasses (cK c) (cM c) b) else if w = 3 then pVoices (cK c) (cM c) &&& pYes (cK c) (cM c) b else -1
def xNow (c : CX) (w : Int32) : Int32 := if w = 0 then mPu (cM c) else if w = 1 then mPa (cM c) else if w = 2 then pVoices (cK c) (cM c) else if w = 3 then mSi (cM c) else if w = 4 then pMost (cK c) (cM c) else if w = 5 then nI (cKn c) else -1
def xPower (c : CX) (t w : Int32) : Int32 := if pNoT (cK c) t || pNoW w then -1 else pTerm (pDec (cK c) t.toNatClampNeg (pVoices (cK c) (cM c))) (pOrders (cK c) (cM c)) w
def xLeast (c : CX) (w : Int32) : Int32 := if pNoW w then -1 else if w = 0 then pLeaN (cK c) (cM c) else pLea1 (cK c) (cM c)
def xSways (c : CX) (b : Int32) : Int32 := if pNoB b then -1 else pSway (cK c) (cM c) b
def xTurn (c : CX) (b : Int32) : Int32 := if pNoB b then -1 else pTurn (cK c) (cM c) b
def xHand (c : CX) (b : Int32) : Int32 := if pNoB b then -1 else pHand (cK c) (cM c) b
def xSwaps (c : CX) (b : Int32) : Int32 := if pNoB b then -1 else pSwap (cK c) (cM c) b
def xIsFor (c : CX) (t w : Int32) : Int32 := if pNoT (cK c) t || pNoW w then -1 else if w = 0 then pPosN (cK c) (cM c) (cI c) t else pPos1 (cK c) (cM c) (cI c) t
def xOdds (c : CX) (b p w : Int32) : Int32 := if pNoB b || decide (p < 0) || decide (10 < p) || pNoW w then -1 else pTerm (pChP (cK c) (cM c) b p) (pChan (cK c)) w
def xCount (c : CX) (w : Int32) : Int32 := if w = 0 then nI (kT (cK c)) else if w = 1 then nI (kO (cK c)) else if w = 2 then kW (cK c) else if w = 3 then nI (iL (cI c)) else if w = 4 then nI (cLe c) else -1
/-! the table of orders, a static of the class -/
def FacOk (U : State) (H : Heap) : Prop := ∃ t : Nat, va_Z RX4 "FACTORIAL" "[I" (.ref t) (fun _ => False) U H ∧ va_T .int t 8 (fun j => .int (facT j)) (fun _ => False) U H
def PreF (G : GG) (W0 : va_W) (U : State) (H : Heap) : Prop := PreW G W0 U H ∧ FacOk U H
theorem FacOk.mv {s U : State} {H : Heap} (h : FacOk s H) (hU : U.heap = H) (hW : s.vm.Alike U.vm) : FacOk U U.heap := by
  obtain ⟨t, h1, h2⟩ := h
  rw [hU]
  exact ⟨t, h1.moved hW, h2.moved hW⟩
theorem PreF.blind {G : GG} {W0 : va_W} {av : List Value} : FrameBlind (va_Pc av (fun U => PreF G W0 U U.heap)) := by
  intro a U g mk h
  obtain ⟨h0, h1, h2⟩ := h
  exact ⟨h0, (PreW.blind (av := av) a U g mk ⟨h0, h1⟩).2, h2.mv (U := U.calling g mk a) rfl (Vm.Alike.refl U.vm)⟩
theorem PreF.pre {G : GG} {W0 : va_W} {s : State} {H : Heap} (h : PreF G W0 s H) {b ci q0 : Nat} {q : vw_C} {fs : List Value} (hc : vwCl[ci]? = some q) (he : W0[q0]? = some (b, .inr (ci, fs))) {As : List Value} : PreV s H q.1 b (va_Pc (.ref b :: As) (fun U => PreF G W0 U U.heap)) As :=
  ⟨PreF.blind, va_recv h.1.2.1 h.1.1 hc he, fun _ hU hW => ⟨rfl, h.1.mv hU hW, h.2.mv hU hW.alike⟩⟩
theorem PreF.preS {G : GG} {W0 : va_W} {s : State} {H : Heap} (h : PreF G W0 s H) {As : List Value} : PreS s H (va_Pc As (fun U => PreF G W0 U U.heap)) As :=
  ⟨PreF.blind, fun _ hU hW => ⟨rfl, h.1.mv hU hW, h.2.mv hU hW.alike⟩⟩
/-! small facts for the walks -/
theorem pNoT_n {k : Cn} {t : Int32} (h : pNoT k t = false) (h7 : kT k ≤ 7) : ∃ j : Nat, j < kT k ∧ t = nI j := by
  simp only [pNoT, decide_eq_false_iff_not, not_or] at h
  rcases pk_ix t (show kT k < 2 ^ 31 by omega) with q | q | q
  · exact absurd q h.1
  · exact absurd q h.2
  · exact q
theorem pNoO_n {k : Cn} {t : Int32} (h : pNoO k t = false) (h7 : kO k ≤ 5) : ∃ j : Nat, j < kO k ∧ t = nI j := by
  simp only [pNoO, decide_eq_false_iff_not, not_or] at h
  rcases pk_ix t (show kO k < 2 ^ 31 by omega) with q | q | q
  · exact absurd q h.1
  · exact absurd q h.2
  · exact q
theorem sh1_pow : ∀ {n : Nat}, n ≤ 5 → sh1 (nI n) = nI (2 ^ n) := by
  intro n hn
  have h : n = 0 ∨ n = 1 ∨ n = 2 ∨ n = 3 ∨ n = 4 ∨ n = 5 := by omega
  rcases h with rfl | rfl | rfl | rfl | rfl | rfl <;> decide
theorem pw_le {n : Nat} (h : n ≤ 5) : 2 ^ n ≤ 32 := by
  have := Nat.pow_le_pow_right (n := 2) (by omega) h
  omega
end
section
/-! OWN HELPERS for the methods that write -/
theorem arrV_congr {cI : ClassId} {n : Nat} {f g : Nat → Value} (h : ∀ i, i < n → f i = g i) : arrV cI n f = arrV cI n g := by
  unfold arrV
  congr 1
  apply congrArg
  funext j
  exact h j.val j.isLt
theorem va_P_arr {D : va_G} {cl : List vw_C} {A : Nat → Prop} {ws : va_W} {H : Heap} {q0 a : Nat} {cA : ClassId} {n : Nat} {f : Nat → Int32} (h : va_P D cl ws H) (hD : va_D A ws) (he : ws[q0]? = some (a, .inl (cA, n, .inl f))) (g : Nat → Int32) (hfg : ∀ i, i < n → f i = g i) : va_P D cl (ws.set q0 (a, .inl (cA, n, .inl g))) H := by
  refine h.set hD he ?_ (fun _ _ => rfl)
  have h0 := h q0 _ he
  show H[a]? = some (vp_cell cA (n, .inl g))
  have h1 : H[a]? = some (vp_cell cA (n, .inl f)) := h0
  rw [h1, vp_cell_i, vp_cell_i, arrV_congr (fun i hi => by rw [hfg i hi])]
theorem va_P_arq {D : va_G} {cl : List vw_C} {A : Nat → Prop} {ws : va_W} {H : Heap} {q0 a : Nat} {cA : ClassId} {n : Nat} {f : Nat → Option Nat} (h : va_P D cl ws H) (hD : va_D A ws) (he : ws[q0]? = some (a, .inl (cA, n, .inr (.inr (.inr (.inr f)))))) (g : Nat → Option Nat) (hfg : ∀ i, i < n → f i = g i) : va_P D cl (ws.set q0 (a, .inl (cA, n, .inr (.inr (.inr (.inr g)))))) H := by
  refine h.set hD he ?_ (fun _ _ => rfl)
  have h0 := h q0 _ he
  show H[a]? = some (vp_cell cA (n, .inr (.inr (.inr (.inr g)))))
  have h1 : H[a]? = some (vp_cell cA (n, .inr (.inr (.inr (.inr f))))) := h0
  rw [h1, vp_cell_q, vp_cell_q, arrV_congr (fun i hi => by rw [hfg i hi])]
theorem va_P_left {D : va_G} {cl : List vw_C} {w1 w2 : va_W} {H : Heap} (h : va_P D cl (w1 ++ w2) H) : va_P D cl w1 H := fun k q hk => h k q (by rw [List.getElem?_append_left (List.getElem?_eq_some_iff.mp hk).1]; exact hk)
theorem set_set_same {ws : va_W} {k : Nat} {x y : Nat × va_E} : (ws.set k x).set k y = ws.set k y := by simp
section WK2
variable {p : Program} {l : Launch} {e : Env} {R : Room} {s : State} {m : MethodId} {args : Array Value} {below : List Frame} {meth : Method} {c : Code} {H : Heap} {locs : List Loc} {cells slots : Nat} {Q : State → Prop}
variable {cc : ByteArray} {pc : Nat} {ls : Array Slot} {rest st0 : List Value} {D : va_G} {cl : List vw_C} {A A0 : Nat → Prop} {a : Nat} {av : Array Value} {tys : List (ClassId × FieldType)} {ws : va_W} {H0 : Heap} {mc ms : Nat}
/-- System.arraycopy of all seven -/
theorem wk_copy7 {cc : ByteArray} (hexec : p.tables.exec = Jvm.exec) (hb : c.code = cc) (hml : c.maxLocals = ls.size) {own : String} {index : Nat} (hown : s.vm.findClass own = some m.cls) (hlink : (Cond.methodLink own index arraycopyName).before args s = true) (hnat : (Cond.native arraycopyName).before args s = true) (hstat : (Cond.static arraycopyName).before args s = true) (hini : (Cond.initialized "java/lang/System").before args s = true)
    (hK : va_K D cl tys s) (hP : va_P D cl ws H) (hD : va_D A ws) (hS : va_S A H0 H locs) (q0 q1 t0 : Nat) {a0 : Nat} {c0 : ClassId} {f g : Nat → Int32} (ha0 : ws[q0]? = some (a0, .inl (c0, 7, .inl f))) (ha1 : ws[q1]? = some (a, .inl (c0, 7, .inl g))) (ht0 : tys[t0]? = some (c0, .int))
    (hframes : 1 ≤ R.frames) (hlocals : (rest.map fun v => v.category).sum + (nativeFrameWords "java/lang/System" "arraycopy" 5 + 11) ≤ R.locals) (hdg : decode cc pc = .ok (.invokestatic index, 3))
    (kk : ∀ (H1 : Heap) (locs1 : List Loc), va_P D cl (ws.set q1 (a, .inl (c0, 7, .inl f))) H1 → va_D A (ws.set q1 (a, .inl (c0, 7, .inl f))) → va_S A H0 H1 locs1 → W p l e R s m args below meth c H1 locs1 cells slots Q (F0 m (pc + 3) ls rest)) : W p l e R s m args below meth c H locs cells slots Q (F0 m pc ls (.int 7 :: .int 0 :: .ref a :: .int 0 :: .ref a0 :: rest)) := by
  refine va_copyi hexec hb hml hown hlink hnat hstat hini hK hP hD hS q0 q1 t0 t0 ha0 ha1 ht0 ht0 rfl (by decide) (by decide) (by decide) (by decide) (by decide) (fun i _ => rfl) hframes hlocals hdg (fun H1 locs1 hP1 hD1 hS1 => ?_)
  have hl : q1 < ws.length := (List.getElem?_eq_some_iff.mp ha1).1
  have h2 := va_P_arr hP1 hD1 (List.getElem?_set_self hl) f (fun i hi => by
    show va_cpy f g 0 0 7 i = f i
    unfold va_cpy
    rw [if_pos ⟨Nat.zero_le i, by omega⟩]
    simp)
  rw [set_set_same] at h2
  exact kk H1 locs1 h2 (hD.set ha1) hS1
/-- a call whose world is the caller's whole world -/
theorem wk_callA {r : Option Value} {W1 : va_W} (hr : va_Run p l e R s m args below meth c H locs cells slots mc ms (F0 m pc ls st0) rest (Qm D cl r W1 (va_A ws H.size) av) (va_A ws H.size)) (hD : va_D A0 ws) (hS : va_S A0 H0 H locs) (hA : ∀ q, H0.size ≤ q → A0 q) (ha : W1.map Prod.fst = ws.map Prod.fst)
    (kk : ∀ (H1 : Heap) (locs1 : List Loc), va_P D cl W1 H1 → va_D A0 W1 → va_S A0 H0 H1 locs1 → W p l e R s m args below meth c H1 locs1 (cells + mc) (slots + ms) Q (F0 m (pc + 3) ls (r.toList ++ rest))) : W p l e R s m args below meth c H locs cells slots Q (F0 m pc ls st0) := by
  intro T hT X
  obtain ⟨v, st₀, t, T', L, h0, X', hL, e1, e2, ⟨hv, hp1, hz, hk⟩, st⟩ := hr T hT X
  cases hv
  rw [h0] at hz hk
  have hF : ∀ q, va_A ws H.size q → A0 q := by
    intro q h
    rcases h with ⟨k, e, h⟩ | h
    · exact hD.2 k (q, e) h
    · exact hA q (Nat.le_trans hS.1 h)
  have key : ∀ (k : Nat) (q : Nat × va_E), W1[k]? = some q → ∃ q0, ws[k]? = some q0 ∧ q0.1 = q.1 := by
    intro k q hq
    have h3 : (W1.map Prod.fst)[k]? = some q.1 := by rw [List.getElem?_map, hq]; rfl
    rw [ha, List.getElem?_map] at h3
    cases hw : ws[k]? with
    | none => rw [hw] at h3; cases h3
    | some q0 => rw [hw] at h3; exact ⟨q0, rfl, Option.some.inj h3⟩
  have hD2 : va_D A0 W1 := by
    refine ⟨fun i j x y hi hj hxy => ?_, fun k q hq => ?_⟩
    · obtain ⟨x0, h1, h2⟩ := key i x hi
      obtain ⟨y0, h3, h4⟩ := key j y hj
      exact hD.1 i j x0 y0 h1 h3 (h2.trans (hxy.trans h4.symm))
    · obtain ⟨q0, h1, h2⟩ := key k q hq
      rw [← h2]
      exact hD.2 k q0 h1
  obtain ⟨t2, a1, b1⟩ := kk T'.heap (locs ++ L) (by rw [e1]; exact hp1) hD2
    ⟨Nat.le_trans hS.1 (by rw [e1]; exact hz), fun q h1 h2 => by rw [e1, hk q (Nat.lt_of_lt_of_le h1 hS.1) (fun z => h2 (hF q z))]; exact hS.2.1 q h1 h2, fun q hq => by
      rcases List.mem_append.mp hq with h | h
      · exact hS.2.2 q h
      · exact hF _ (hL q h)⟩ T' rfl X'
  exact ⟨t2, st t2 a1, b1⟩
/-- ends of a method that writes: its world W2 is the promised one -/
theorem wk_mret' {v : Int32} {r : Option Value} {W1 W2 : va_W} (hexec : p.tables.exec = Jvm.exec) (hb : c.code = cc) (hr : meth.sig.returnType = some .int) (hlocks : meth.locks = false) (hdg : decode cc pc = .ok (.ireturn, 1)) (hP : va_P D cl W2 H) (hS : va_S A s.heap H locs) (he : r = some (Value.int v)) (hW : W1 = W2) : W p l e R s m args below meth c H locs cells slots (MQ below (Qm D cl r W1 A) args s cells slots A) (F0 m pc ls [.int v]) := by
  subst hW
  exact wk_mret hexec hb hr hlocks hdg hP hS he.symm
theorem wk_mzret' {v : Int32} {r : Option Value} {W1 W2 : va_W} (hexec : p.tables.exec = Jvm.exec) (hb : c.code = cc) (hr : meth.sig.returnType = some .boolean) (hn : narrow .boolean (.int v) = .int v) (hlocks : meth.locks = false) (hdg : decode cc pc = .ok (.ireturn, 1)) (hP : va_P D cl W2 H) (hS : va_S A s.heap H locs) (he : r = some (Value.int v)) (hW : W1 = W2) : W p l e R s m args below meth c H locs cells slots (MQ below (Qm D cl r W1 A) args s cells slots A) (F0 m pc ls [.int v]) := by
  subst hW
  subst he
  exact W.zret hexec hb hr hn (fun t ht _ => ⟨rfl, by rw [ht]; exact hP, hS.F ht⟩) hS.2.2 hdg hlocks
theorem wk_mvret' {W1 W2 : va_W} (hexec : p.tables.exec = Jvm.exec) (hb : c.code = cc) (hr : meth.sig.returnType = none) (hlocks : meth.locks = false) (hdg : decode cc pc = .ok (.return_, 1)) (hP : va_P D cl W2 H) (hS : va_S A s.heap H locs) (hW : W1 = W2) : W p l e R s m args below meth c H locs cells slots (MQ below (Qm D cl none W1 A) args s cells slots A) (F0 m pc ls []) := by
  subst hW
  exact wk_mvret hexec hb hr hlocks hdg hP hS
end WK2
theorem PreM.mk {G : GG} {W0 : va_W} {A0 : Nat → Prop} {s : State} {H : Heap} (hP : va_P G.1 vwCl W0 H) (hK : va_K G.1 vwCl (tysG G) s) (hN : NW s) (hD : va_D A0 W0) : PreM G W0 H.size s H := ⟨⟨hP, hK, hN⟩, hD.weaken (fun _ _ _ _ => trivial), rfl⟩
/-! the class's state, written anew in one place -/
def setTx (c : CX) (v : Ar) : CX := (v, cLe c, cK c, cDr c, cRd c, cM c, cI c, cNx c, cKn c, cRi c, cIm c, cKe c, cTr c)
def setLe (c : CX) (v : Nat) : CX := (cTx c, v, cK c, cDr c, cRd c, cM c, cI c, cNx c, cKn c, cRi c, cIm c, cKe c, cTr c)
def setK (c : CX) (v : Cn) : CX := (cTx c, cLe c, v, cDr c, cRd c, cM c, cI c, cNx c, cKn c, cRi c, cIm c, cKe c, cTr c)
def setDrRd (c : CX) (v : Cn) (w : Rd) : CX := (cTx c, cLe c, cK c, v, w, cM c, cI c, cNx c, cKn c, cRi c, cIm c, cKe c, cTr c)
def setM (c : CX) (v : Mo) : CX := (cTx c, cLe c, cK c, cDr c, cRd c, v, cI c, cNx c, cKn c, cRi c, cIm c, cKe c, cTr c)
def setI (c : CX) (v : Mi) : CX := (cTx c, cLe c, cK c, cDr c, cRd c, cM c, v, cNx c, cKn c, cRi c, cIm c, cKe c, cTr c)
def setNK (c : CX) (v w : Nat) : CX := (cTx c, cLe c, cK c, cDr c, cRd c, cM c, cI c, v, w, cRi c, cIm c, cKe c, cTr c)
def setRi (c : CX) (v : Nat → Mo) : CX := (cTx c, cLe c, cK c, cDr c, cRd c, cM c, cI c, cNx c, cKn c, v, cIm c, cKe c, cTr c)
def setIm (c : CX) (v : Nat → Mo) : CX := (cTx c, cLe c, cK c, cDr c, cRd c, cM c, cI c, cNx c, cKn c, cRi c, v, cKe c, cTr c)
def setKe (c : CX) (v : Int32) : CX := (cTx c, cLe c, cK c, cDr c, cRd c, cM c, cI c, cNx c, cKn c, cRi c, cIm c, v, cTr c)
def setTr (c : CX) (v : Int64) : CX := (cTx c, cLe c, cK c, cDr c, cRd c, cM c, cI c, cNx c, cKn c, cRi c, cIm c, cKe c, v)
abbrev rLen (r : Rd) : Nat := r.1
abbrev rPl (r : Rd) : Nat := r.2.1
abbrev rTok (r : Rd) : Int32 := r.2.2.1
abbrev rTP (r : Rd) : Nat := r.2.2.2.1
abbrev rNum (r : Rd) : Nat := r.2.2.2.2.1
abbrev rFa (r : Rd) : Int32 := r.2.2.2.2.2.1
abbrev rWa (r : Rd) : Bool := r.2.2.2.2.2.2
abbrev eRd (a : Nat → Nat) (r : Rd) : Nat × va_E := (a 21, .inr (5, [.ref (a 15), .ref (a 16), .int (nI (rLen r)), .int (nI (rPl r)), .int (rTok r), .int (nI (rTP r)), .int (nI (rNum r)), .int (rFa r), .int (b2i (rWa r))]))
/-- all that the class has: what is read (0 .. 14); 15 text, 16 draft (17 .. 20), 21 reader, 22 ring (23 + 3 j), 53 images (54 + 3 j) -/
def WX (G : GG) (a : Nat → Nat) (c : CX) : va_W := WR G a c ++ [(a 15, .inl (gC G, 200, .inl (cTx c))), eCn a 16 (cDr c), eAr G a 17 7 (kS (cDr c)), eAr G a 18 7 (kV (cDr c)), eAr G a 19 7 (kB (cDr c)), eAr G a 20 7 (kF (cDr c)), eRd a (cRd c), (a 22, .inl (gO G, 10, .inr (.inr (.inr (.inr (fun j => some (a (23 + 3 * j)))))))), eMo a 23 (cRi c 0), eAr G a 24 7 (mH (cRi c 0)), eAr G a 25 7 (mW (cRi c 0)), eMo a 26 (cRi c 1), eAr G a 27 7 (mH (cRi c 1)), eAr G a 28 7 (mW (cRi c 1)), eMo a 29 (cRi c 2), eAr G a 30 7 (mH (cRi c 2)), eAr G a 31 7 (mW (cRi c 2)), eMo a 32 (cRi c 3), eAr G a 33 7 (mH (cRi c 3)), eAr G a 34 7 (mW (cRi c 3)), eMo a 35 (cRi c 4), eAr G a 36 7 (mH (cRi c 4)), eAr G a 37 7 (mW (cRi c 4)), eMo a 38 (cRi c 5), eAr G a 39 7 (mH (cRi c 5)), eAr G a 40 7 (mW (cRi c 5)), eMo a 41 (cRi c 6), eAr G a 42 7 (mH (cRi c 6)), eAr G a 43 7 (mW (cRi c 6)), eMo a 44 (cRi c 7), eAr G a 45 7 (mH (cRi c 7)), eAr G a 46 7 (mW (cRi c 7)), eMo a 47 (cRi c 8), eAr G a 48 7 (mH (cRi c 8)), eAr G a 49 7 (mW (cRi c 8)), eMo a 50 (cRi c 9), eAr G a 51 7 (mH (cRi c 9)), eAr G a 52 7 (mW (cRi c 9)), (a 53, .inl (gO G, 2, .inr (.inr (.inr (.inr (fun j => some (a (54 + 3 * j)))))))), eMo a 54 (cIm c 0), eAr G a 55 7 (mH (cIm c 0)), eAr G a 56 7 (mW (cIm c 0)), eMo a 57 (cIm c 1), eAr G a 58 7 (mH (cIm c 1)), eAr G a 59 7 (mW (cIm c 1))]
/-- the reader's part: 0 reader, 1 text, 2 draft (3 .. 6) -/
def WD (G : GG) (a : Nat → Nat) (tx : Ar) (d : Cn) (r : Rd) : va_W := [eRd a r, (a 15, .inl (gC G, 200, .inl tx)), eCn a 16 d, eAr G a 17 7 (kS d), eAr G a 18 7 (kV d), eAr G a 19 7 (kB d), eAr G a 20 7 (kF d)]
/-- two moments: 0 the one that is written (1, 2), 3 the one that is read (4, 5) -/
def WC (G : GG) (b : Nat → Nat) (x y : Mo) : va_W := [eMo b 0 x, eAr G b 1 7 (mH x), eAr G b 2 7 (mW x), eMo b 3 y, eAr G b 4 7 (mH y), eAr G b 5 7 (mW y)]
def twoM (a : Nat → Nat) (i j : Nat) : Nat → Nat := fun k => if k < 3 then a (i + k) else a (j + (k - 3))
theorem ring_nd {j : Nat} (h : j < 10) : va_nd [23 + 3 * j, 24 + 3 * j, 25 + 3 * j, 6, 7, 8] = true := by
  have h : j = 0 ∨ j = 1 ∨ j = 2 ∨ j = 3 ∨ j = 4 ∨ j = 5 ∨ j = 6 ∨ j = 7 ∨ j = 8 ∨ j = 9 := by omega
  rcases h with rfl | rfl | rfl | rfl | rfl | rfl | rfl | rfl | rfl | rfl <;> rfl
theorem ring_nd2 {j : Nat} (h : j < 10) : va_nd [6, 7, 8, 23 + 3 * j, 24 + 3 * j, 25 + 3 * j] = true := by
  have h : j = 0 ∨ j = 1 ∨ j = 2 ∨ j = 3 ∨ j = 4 ∨ j = 5 ∨ j = 6 ∨ j = 7 ∨ j = 8 ∨ j = 9 := by omega
  rcases h with rfl | rfl | rfl | rfl | rfl | rfl | rfl | rfl | rfl | rfl <;> rfl
theorem ring_get (G : GG) (a : Nat → Nat) (c : CX) {j : Nat} (h : j < 10) : [23 + 3 * j, 24 + 3 * j, 25 + 3 * j, 6, 7, 8].map (fun i => (WX G a c)[i]?) = (WC G (twoM a (23 + 3 * j) 6) (cRi c j) (cM c)).map some := by
  have h : j = 0 ∨ j = 1 ∨ j = 2 ∨ j = 3 ∨ j = 4 ∨ j = 5 ∨ j = 6 ∨ j = 7 ∨ j = 8 ∨ j = 9 := by omega
  rcases h with rfl | rfl | rfl | rfl | rfl | rfl | rfl | rfl | rfl | rfl <;> rfl
theorem ring_get2 (G : GG) (a : Nat → Nat) (c : CX) {j : Nat} (h : j < 10) : [6, 7, 8, 23 + 3 * j, 24 + 3 * j, 25 + 3 * j].map (fun i => (WX G a c)[i]?) = (WC G (twoM a 6 (23 + 3 * j)) (cM c) (cRi c j)).map some := by
  have h : j = 0 ∨ j = 1 ∨ j = 2 ∨ j = 3 ∨ j = 4 ∨ j = 5 ∨ j = 6 ∨ j = 7 ∨ j = 8 ∨ j = 9 := by omega
  rcases h with rfl | rfl | rfl | rfl | rfl | rfl | rfl | rfl | rfl | rfl <;> rfl
theorem ring_set (G : GG) (a : Nat → Nat) (c : CX) {j : Nat} (h : j < 10) : setL (WX G a c) [23 + 3 * j, 24 + 3 * j, 25 + 3 * j, 6, 7, 8] (WC G (twoM a (23 + 3 * j) 6) (cM c) (cM c)) = WX G a (setRi c (va_up (cRi c) j (cM c))) := by
  have h : j = 0 ∨ j = 1 ∨ j = 2 ∨ j = 3 ∨ j = 4 ∨ j = 5 ∨ j = 6 ∨ j = 7 ∨ j = 8 ∨ j = 9 := by omega
  rcases h with rfl | rfl | rfl | rfl | rfl | rfl | rfl | rfl | rfl | rfl <;> rfl
theorem ring_set2 (G : GG) (a : Nat → Nat) (c : CX) {j : Nat} (h : j < 10) : setL (WX G a c) [6, 7, 8, 23 + 3 * j, 24 + 3 * j, 25 + 3 * j] (WC G (twoM a 6 (23 + 3 * j)) (cRi c j) (cRi c j)) = WX G a (setM c (cRi c j)) := by
  have h : j = 0 ∨ j = 1 ∨ j = 2 ∨ j = 3 ∨ j = 4 ∨ j = 5 ∨ j = 6 ∨ j = 7 ∨ j = 8 ∨ j = 9 := by omega
  rcases h with rfl | rfl | rfl | rfl | rfl | rfl | rfl | rfl | rfl | rfl <;> rfl
theorem imgs_nd {j : Nat} (h : j < 2) : va_nd [54 + 3 * j, 55 + 3 * j, 56 + 3 * j, 6, 7, 8] = true := by
  have h : j = 0 ∨ j = 1 := by omega
  rcases h with rfl | rfl <;> rfl
theorem imgs_nd2 {j : Nat} (h : j < 2) : va_nd [6, 7, 8, 54 + 3 * j, 55 + 3 * j, 56 + 3 * j] = true := by
  have h : j = 0 ∨ j = 1 := by omega
  rcases h with rfl | rfl <;> rfl
theorem imgs_get (G : GG) (a : Nat → Nat) (c : CX) {j : Nat} (h : j < 2) : [54 + 3 * j, 55 + 3 * j, 56 + 3 * j, 6, 7, 8].map (fun i => (WX G a c)[i]?) = (WC G (twoM a (54 + 3 * j) 6) (cIm c j) (cM c)).map some := by
  have h : j = 0 ∨ j = 1 := by omega
  rcases h with rfl | rfl <;> rfl
theorem imgs_get2 (G : GG) (a : Nat → Nat) (c : CX) {j : Nat} (h : j < 2) : [6, 7, 8, 54 + 3 * j, 55 + 3 * j, 56 + 3 * j].map (fun i => (WX G a c)[i]?) = (WC G (twoM a 6 (54 + 3 * j)) (cM c) (cIm c j)).map some := by
  have h : j = 0 ∨ j = 1 := by omega
  rcases h with rfl | rfl <;> rfl
theorem imgs_set (G : GG) (a : Nat → Nat) (c : CX) {j : Nat} (h : j < 2) : setL (WX G a c) [54 + 3 * j, 55 + 3 * j, 56 + 3 * j, 6, 7, 8] (WC G (twoM a (54 + 3 * j) 6) (cM c) (cM c)) = WX G a (setIm c (va_up (cIm c) j (cM c))) := by
  have h : j = 0 ∨ j = 1 := by omega
  rcases h with rfl | rfl <;> rfl
theorem imgs_set2 (G : GG) (a : Nat → Nat) (c : CX) {j : Nat} (h : j < 2) : setL (WX G a c) [6, 7, 8, 54 + 3 * j, 55 + 3 * j, 56 + 3 * j] (WC G (twoM a 6 (54 + 3 * j)) (cIm c j) (cIm c j)) = WX G a (setM c (cIm c j)) := by
  have h : j = 0 ∨ j = 1 := by omega
  rcases h with rfl | rfl <;> rfl
abbrev DS : Type := Cn × Rd
def WDs (G : GG) (a : Nat → Nat) (tx : Ar) (c : DS) : va_W := WD G a tx c.1 c.2
/-- what keeps the reader in its rows -/
def OkD (c : DS) : Prop := kT c.1 ≤ 7 ∧ 1 ≤ kO c.1 ∧ kO c.1 ≤ 5 ∧ rLen c.2 ≤ 200 ∧ rPl c.2 ≤ rLen c.2 ∧ rTP c.2 ≤ rPl c.2 ∧ rNum c.2 ≤ 32
theorem updB_eq (f : Nat → Bool) (i : Nat) (v : Bool) : upd (fun j => b2i (f j)) i (b2i v) = fun j => b2i (va_up f i v j) := by
  funext j
  by_cases h : j = i <;> simp [upd, va_up, h]
theorem min_n {x y : Nat} (hx : x < 2 ^ 31) (hy : y < 2 ^ 31) : (if nI y < nI x then nI y else nI x) = nI (min x y) := by
  by_cases h : y < x
  · rw [if_pos ((nI_ltI hy hx).mpr h), Nat.min_eq_right (by omega)]
  · rw [if_neg (fun q => h ((nI_ltI hy hx).mp q)), Nat.min_eq_left (by omega)]
theorem chr_small {j : Nat} (h : j < 256) : vp_nar .char ((nI j).toUInt32 % 65536).toInt32 = nI j := by
  rw [pk_vc, pk_char, pk_tn (by omega), Nat.mod_eq_of_lt (by omega)]
/-! the reader, as the class reads -/
def mkF (r : Rd) : Rd := if rFa r = -1 then (rLen r, rPl r, rTok r, rTP r, rNum r, nI (rTP r), rWa r) else r
def isDig (x : Int32) : Bool := decide (48 ≤ x) && decide (x ≤ 57)
def dg (x : Int32) : Nat := x.toNatClampNeg - 48
theorem dg_of {x : Int32} (h : isDig x = true) : ∃ q : Nat, q < 10 ∧ x = nI (48 + q) := by
  simp only [isDig, Bool.and_eq_true, decide_eq_true_eq] at h
  have h0 : ¬ x < 0 := fun z => by
    have h1 := Int32.le_iff_toInt_le.mp h.1
    have h2 := Int32.lt_iff_toInt_lt.mp z
    have h3 : (48 : Int32).toInt = 48 := rfl
    have h4 : (0 : Int32).toInt = 0 := rfl
    omega
  obtain ⟨j, hj, rfl⟩ := nI_of h0
  have h1 : nI 48 ≤ nI j := h.1
  have h2 : nI j ≤ nI 57 := h.2
  rw [nI_leI (by omega) hj] at h1
  rw [nI_leI hj (by omega)] at h2
  exact ⟨j - 48, by omega, by rw [show 48 + (j - 48) = j by omega]⟩
theorem dg_eq {x : Int32} (h : isDig x = true) : x - 48 = nI (dg x) := by
  obtain ⟨q, hq, rfl⟩ := dg_of h
  rw [dg, nI_clamp (by omega), show 48 + q - 48 = q by omega]
  show nI (48 + q) - nI 48 = nI q
  rw [pk_sub (by omega), show 48 + q - 48 = q by omega]
theorem dg_lt {x : Int32} (h : isDig x = true) : dg x < 10 := by
  obtain ⟨q, hq, rfl⟩ := dg_of h
  rw [dg, nI_clamp (by omega)]
  omega
def skF (tx : Ar) (len : Nat) : Nat → Nat → Nat
  | 0, p => p
  | n + 1, p => if p < len ∧ tx p = 32 then skF tx len n (p + 1) else p
def skB (tx : Ar) (len p : Nat) : Nat := skF tx len (len - p) p
def dgF (tx : Ar) (len : Nat) : Nat → Nat → Nat → Nat × Nat
  | 0, p, m => (p, m)
  | n + 1, p, m => if p < len ∧ isDig (tx p) = true then dgF tx len n (p + 1) (min (m * 10 + dg (tx p)) 32) else (p, m)
def dgB (tx : Ar) (len p : Nat) : Nat × Nat := dgF tx len (len - p) p 0
def plR (r : Rd) (p : Nat) : Rd := (rLen r, p, rTok r, rTP r, rNum r, rFa r, rWa r)
def pnR (r : Rd) (p m : Nat) : Rd := (rLen r, p, rTok r, rTP r, m, rFa r, rWa r)
def tkT (z t : Bool) (d m : Nat) : Int32 := if (z && decide (1 < d)) || decide (31 < m) then -3 else if t then -2 else -2
def tkD (tx : Ar) (r : Rd) : Rd := (rLen r, (dgB tx (rLen r) (rPl r)).1, (if (tx (rPl r) = 48 ∧ 1 < (dgB tx (rLen r) (rPl r)).1 - rTP r) ∨ 31 < (dgB tx (rLen r) (rPl r)).2 then -3 else -2), rTP r, (dgB tx (rLen r) (rPl r)).2, rFa r, rWa r)
def nxP (tx : Ar) (r : Rd) (p : Nat) : Rd := if rLen r ≤ p then (rLen r, p, -1, p, rNum r, rFa r, rWa r) else if isDig (tx p) then tkD tx (rLen r, p, rTok r, p, rNum r, rFa r, rWa r) else (rLen r, p + 1, tx p, p, rNum r, rFa r, rWa r)
def nxT (tx : Ar) (r : Rd) : Rd := nxP tx r (skB tx (rLen r) (rPl r))
def rdN (tx : Ar) (lo hi : Nat) (r : Rd) : Nat × Rd := if rTok (nxT tx r) = -2 ∧ lo ≤ rNum (nxT tx r) ∧ rNum (nxT tx r) ≤ hi then (rNum (nxT tx r), nxT tx r) else (lo, mkF (nxT tx r))
def addT (d : Cn) (s v b h : Nat) : Cn := if kT d < 7 then (kT d + 1, kO d, kW d, upd (kS d) (kT d) (nI s), upd (kV d) (kT d) (nI v), upd (kB d) (kT d) (nI b), upd (kF d) (kT d) (nI h)) else d
def offT (d : Cn) (n : Nat) : Cn := (kT d, n, kW d, kS d, kV d, kB d, kF d)
def warT (d : Cn) (n : Nat) : Cn := (kT d, kO d, nI n, kS d, kV d, kB d, kF d)
def wtR (r : Rd) : Rd := (rLen r, rPl r, rTok r, rTP r, rNum r, rFa r, true)
def newT (d : Cn) : Cn := (0, 3, 2, kS d, kV d, kB d, kF d)
def rdOff (tx : Ar) (items : Nat) (c : DS) : DS := (offT c.1 (rdN tx 1 5 (if 0 < items then mkF c.2 else c.2)).1, (rdN tx 1 5 (if 0 < items then mkF c.2 else c.2)).2)
def rdThg (tx : Ar) (c : DS) : DS :=
  let r0 := if kT c.1 < 7 then c.2 else mkF c.2
  let z1 := rdN tx 0 3 r0
  let z2 := rdN tx 1 9 z1.2
  let z3 := rdN tx 0 31 z2.2
  let z4 := rdN tx 0 (kO c.1 - 1) z3.2
  (addT c.1 z1.1 z2.1 z3.1 z4.1, z4.2)
def rdWar (tx : Ar) (c : DS) : DS := (warT c.1 (rdN tx 0 9 (wtR (if rWa c.2 then mkF c.2 else c.2))).1, (rdN tx 0 9 (wtR (if rWa c.2 then mkF c.2 else c.2))).2)
def rdEnd (tx : Ar) (r : Rd) : Rd := if rTok (nxT tx r) = 59 then nxT tx r else mkF (nxT tx r)
def rdBeg (tx : Ar) (n : Nat) (c : DS) : DS := (newT c.1, nxT tx (min n 200, 0, rTok c.2, rTP c.2, rNum c.2, -1, false))
def rdSw (tx : Ar) (items : Nat) (c : DS) : DS := if rTok c.2 = 111 then rdOff tx items c else if rTok c.2 = 116 then rdThg tx c else if rTok c.2 = 119 then rdWar tx c else (c.1, mkF c.2)
def rdIt (tx : Ar) (items : Nat) (c : DS) : DS := ((rdSw tx items c).1, nxT tx (rdEnd tx (rdSw tx items c).2))
def rdL (tx : Ar) : Nat → Nat → DS → Nat × DS
  | 0, items, c => (items, c)
  | n + 1, items, c => if rTok c.2 = -1 ∨ ¬ rFa c.2 = -1 then (items, c) else rdL tx n (items + 1) (rdIt tx items c)
def rdTx (tx : Ar) (n : Nat) (c : DS) : Int32 × DS :=
  let z := rdL tx 201 0 (rdBeg tx n c)
  (if rFa z.2.2 = -1 then nI z.1 else -10 - rFa z.2.2, z.2)
/-! the invariant through the reader -/
theorem mkF_len (r : Rd) : rLen (mkF r) = rLen r ∧ rPl (mkF r) = rPl r ∧ rTP (mkF r) = rTP r ∧ rNum (mkF r) = rNum r ∧ rTok (mkF r) = rTok r ∧ rWa (mkF r) = rWa r := by
  unfold mkF
  by_cases h : rFa r = -1 <;> simp [h]
theorem skF_le (tx : Ar) (len : Nat) : ∀ (n p : Nat), p ≤ skF tx len n p ∧ (p ≤ len → skF tx len n p ≤ len)
  | 0, p => ⟨Nat.le_refl _, fun h => h⟩
  | n + 1, p => by
    unfold skF
    by_cases h : p < len ∧ tx p = 32
    · rw [if_pos h]
      have := skF_le tx len n (p + 1)
      exact ⟨by omega, fun _ => this.2 (by omega)⟩
    · rw [if_neg h]
      exact ⟨Nat.le_refl _, fun h => h⟩
theorem dgF_le (tx : Ar) (len : Nat) : ∀ (n p m : Nat), p ≤ (dgF tx len n p m).1 ∧ (p ≤ len → (dgF tx len n p m).1 ≤ len) ∧ (m ≤ 32 → (dgF tx len n p m).2 ≤ 32)
  | 0, p, m => ⟨Nat.le_refl _, fun h => h, fun h => h⟩
  | n + 1, p, m => by
    unfold dgF
    by_cases h : p < len ∧ isDig (tx p) = true
    · rw [if_pos h]
      have := dgF_le tx len n (p + 1) (min (m * 10 + dg (tx p)) 32)
      exact ⟨by omega, fun _ => this.2.1 (by omega), fun _ => this.2.2 (by omega)⟩
    · rw [if_neg h]
      exact ⟨Nat.le_refl _, fun h => h, fun h => h⟩
/-- the reader's own bounds -/
def OkRd (r : Rd) : Prop := rLen r ≤ 200 ∧ rPl r ≤ rLen r ∧ rTP r ≤ rPl r ∧ rNum r ≤ 32
theorem ok_mkF {r : Rd} (h : OkRd r) : OkRd (mkF r) := by
  obtain ⟨h1, h2, h3, h4, -, -⟩ := mkF_len r
  unfold OkRd
  rw [h1, h2, h3, h4]
  exact h
theorem ok_tkD {tx : Ar} {r : Rd} (h : OkRd r) : OkRd (tkD tx r) := by
  obtain ⟨h1, h2, h3, h4⟩ := h
  have := dgF_le tx (rLen r) (rLen r - rPl r) (rPl r) 0
  refine ⟨h1, this.2.1 h2, ?_, this.2.2 (by omega)⟩
  show rTP r ≤ (dgB tx (rLen r) (rPl r)).1
  exact Nat.le_trans h3 this.1
theorem ok_nxT {tx : Ar} {r : Rd} (h1 : rLen r ≤ 200) (h2 : rPl r ≤ rLen r) (h4 : rNum r ≤ 32) : OkRd (nxT tx r) := by
  have hs := skF_le tx (rLen r) (rLen r - rPl r) (rPl r)
  unfold nxT nxP
  have e : skB tx (rLen r) (rPl r) = skF tx (rLen r) (rLen r - rPl r) (rPl r) := rfl
  rw [e]
  generalize skF tx (rLen r) (rLen r - rPl r) (rPl r) = p at hs
  by_cases h : rLen r ≤ p
  · rw [if_pos h]
    exact ⟨h1, hs.2 h2, Nat.le_refl _, h4⟩
  · rw [if_neg h]
    by_cases hd : isDig (tx p) = true
    · rw [if_pos hd]
      exact ok_tkD ⟨h1, hs.2 h2, Nat.le_refl _, h4⟩
    · rw [if_neg hd]
      exact ⟨h1, show p + 1 ≤ rLen r by omega, show p ≤ p + 1 by omega, h4⟩
theorem ok_nx {tx : Ar} {r : Rd} (h : OkRd r) : OkRd (nxT tx r) := ok_nxT h.1 h.2.1 h.2.2.2
theorem ok_rdN {tx : Ar} {lo hi : Nat} {r : Rd} (h : OkRd r) : OkRd (rdN tx lo hi r).2 := by
  unfold rdN
  split
  · exact ok_nx h
  · exact ok_mkF (ok_nx h)
theorem rdN_in {tx : Ar} {lo hi : Nat} {r : Rd} (h : lo ≤ hi) : lo ≤ (rdN tx lo hi r).1 ∧ (rdN tx lo hi r).1 ≤ hi := by
  unfold rdN
  split
  · next q => exact q.2
  · exact ⟨Nat.le_refl _, h⟩
theorem okD_iff {c : DS} : OkD c ↔ (kT c.1 ≤ 7 ∧ 1 ≤ kO c.1 ∧ kO c.1 ≤ 5) ∧ OkRd c.2 := by
  unfold OkD OkRd
  constructor
  · rintro ⟨a, b, c, d, e, f, g⟩; exact ⟨⟨a, b, c⟩, d, e, f, g⟩
  · rintro ⟨⟨a, b, c⟩, d, e, f, g⟩; exact ⟨a, b, c, d, e, f, g⟩
theorem ok_addT {d : Cn} {s v b h : Nat} (hd : kT d ≤ 7 ∧ 1 ≤ kO d ∧ kO d ≤ 5) : kT (addT d s v b h) ≤ 7 ∧ 1 ≤ kO (addT d s v b h) ∧ kO (addT d s v b h) ≤ 5 := by
  unfold addT
  split
  · exact ⟨show kT d + 1 ≤ 7 by omega, hd.2⟩
  · exact hd
theorem ok_if {P : Prop} [Decidable P] {r : Rd} (h : OkRd r) : OkRd (if P then mkF r else r) := by split; exact ok_mkF h; exact h
theorem ok_if2 {P : Prop} [Decidable P] {r : Rd} (h : OkRd r) : OkRd (if P then r else mkF r) := by split; exact h; exact ok_mkF h
theorem ok_rdOff {tx : Ar} {items : Nat} {c : DS} (h : OkD c) : OkD (rdOff tx items c) := by
  rw [okD_iff] at h ⊢
  have hi := rdN_in (tx := tx) (lo := 1) (hi := 5) (r := if 0 < items then mkF c.2 else c.2) (by omega)
  exact ⟨⟨h.1.1, hi⟩, ok_rdN (ok_if h.2)⟩
theorem ok_rdWar {tx : Ar} {c : DS} (h : OkD c) : OkD (rdWar tx c) := by
  rw [okD_iff] at h ⊢
  exact ⟨h.1, ok_rdN (show OkRd (wtR (if rWa c.2 then mkF c.2 else c.2)) from ok_if (P := rWa c.2 = true) h.2)⟩
theorem ok_rdThg {tx : Ar} {c : DS} (h : OkD c) : OkD (rdThg tx c) := by
  rw [okD_iff] at h ⊢
  simp only [rdThg]
  refine ⟨ok_addT h.1, ?_⟩
  apply ok_rdN
  apply ok_rdN
  apply ok_rdN
  apply ok_rdN
  exact ok_if2 h.2
theorem ok_rdEnd {tx : Ar} {r : Rd} (h : OkRd r) : OkRd (rdEnd tx r) := ok_if2 (P := rTok (nxT tx r) = 59) (ok_nx h)
theorem ok_rdBeg {tx : Ar} {n : Nat} {c : DS} (h : OkD c) : OkD (rdBeg tx n c) := by
  rw [okD_iff] at h ⊢
  exact ⟨⟨show 0 ≤ 7 by omega, show 1 ≤ 3 by omega, show 3 ≤ 5 by omega⟩, ok_nxT (show min n 200 ≤ 200 by omega) (show 0 ≤ min n 200 by omega) h.2.2.2.2⟩
theorem ok_rdSw {tx : Ar} {items : Nat} {c : DS} (h : OkD c) : OkD (rdSw tx items c) := by
  unfold rdSw
  split
  · exact ok_rdOff h
  · split
    · exact ok_rdThg h
    · split
      · exact ok_rdWar h
      · rw [okD_iff] at h ⊢
        exact ⟨h.1, ok_mkF h.2⟩
theorem ok_rdIt {tx : Ar} {items : Nat} {c : DS} (h : OkD c) : OkD (rdIt tx items c) := by
  have h2 := okD_iff.mp (ok_rdSw (tx := tx) (items := items) h)
  exact okD_iff.mpr ⟨h2.1, ok_nx (ok_rdEnd h2.2)⟩
theorem ok_rdL {tx : Ar} : ∀ (n items : Nat) (c : DS), OkD c → OkD (rdL tx n items c).2
  | 0, _, _, h => h
  | n + 1, items, c, h => by
    unfold rdL
    split
    · exact h
    · exact ok_rdL n (items + 1) _ (ok_rdIt h)
theorem ok_rdTx {tx : Ar} {n : Nat} {c : DS} (h : OkD c) : OkD (rdTx tx n c).2 := ok_rdL 201 0 _ (ok_rdBeg h)
end
